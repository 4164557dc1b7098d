import java.util.ArrayList;
import java.util.List;
import java.util.Random;

/**
 * Random runs from fixed seeds. What a run comes to is compared with a new bank on which only the
 * modifications that still count are made again, and with what its own answers imply.
 */
public final class RandomWalkTest {
    private static final int WALKS = 3000;
    private static final int STEPS = 36;
    private static final String NOTHING = "nothing";

    private enum Name { OPEN, DEPOSIT, WITHDRAW, LIMIT, SEAL, CANCEL, DAYS, EXECUTE, UNDO, SAVE, RESTORE }

    /** One call that may change something; the parts are the commands of a program. */
    private record Step(Name name, int a, int b, int c, int d, List<Step> parts) {
        int call(InkBank bank) {
            switch (name) {
                case OPEN: return bank.open(a);
                case DEPOSIT: return bank.deposit(a, b);
                case WITHDRAW: return bank.withdraw(a, b);
                case LIMIT: return bank.setLimit(a, b);
                case SEAL: return bank.seal(a, b, c, d);
                case CANCEL: return bank.cancel(a);
                case DAYS: return bank.endDays(a);
                case EXECUTE: return Banks.run(bank, program());
                case UNDO: return bank.undo();
                case SAVE: return bank.save();
                default: return bank.restore();
            }
        }

        /** Makes the step without the buffer: the commands of a program become calls. */
        void again(InkBank bank) {
            if (name != Name.EXECUTE) {
                call(bank);
                return;
            }
            for (Step part : parts) {
                part.call(bank);
            }
        }

        String program() {
            StringBuilder text = new StringBuilder();
            for (Step part : parts) {
                text.append(text.length() == 0 ? "" : ";").append(part.command());
            }
            return text.toString();
        }

        private String command() {
            switch (name) {
                case DEPOSIT: return "pay " + a + " " + b;
                case WITHDRAW: return "draw " + a + " " + b;
                case LIMIT: return "limit " + a + " " + b;
                case SEAL: return "send " + a + b + " " + c + " " + d;
                case CANCEL: return "void " + a;
                default: return "wait " + a;
            }
        }
    }

    private final Random random;
    private final InkBank bank = new InkBank();
    private List<Step> made = new ArrayList<>();
    private List<Step> saved = null;
    private int undoable = 0;

    private RandomWalkTest(long seed) {
        random = new Random(seed);
    }

    public static void main(String[] args) {
        for (int seed = 0; seed < WALKS; seed++) {
            new RandomWalkTest(seed).walk("walk " + seed);
        }
        Check.finish("RandomWalkTest");
    }

    private void walk(String walk) {
        for (int i = 0; i < 3; i++) {
            take(walk, new Step(Name.OPEN, random.nextInt(4), 0, 0, 0, null));
        }
        for (int i = 0; i < STEPS; i++) {
            take(walk, anyStep());
        }
        Check.same(walk + " state", Banks.state(bank), Banks.state(twin()));
        sums(walk);
        orders(walk);
        ways(walk);
        looksAhead(walk);
        nextDay(walk);
    }

    private InkBank twin() {
        InkBank twin = new InkBank();
        for (Step step : made) {
            step.again(twin);
        }
        return twin;
    }

    private void take(String walk, Step step) {
        String thrown = NOTHING;
        int answer = 0;
        try {
            answer = step.call(bank);
        } catch (RuntimeException exception) {
            thrown = exception.getClass().getSimpleName();
        }
        if (!thrown.equals(NOTHING)) {
            Check.same(walk + " " + step + " may throw " + thrown, mayThrow(step.name()).contains(thrown), true);
            return;
        }
        if (step.name() == Name.UNDO) {
            undoable--;
            Check.same(walk + " undo", answer, undoable);
            made = new ArrayList<>(made.subList(0, made.size() - 1));
        } else if (step.name() == Name.SAVE) {
            saved = new ArrayList<>(made);
        } else if (step.name() == Name.RESTORE) {
            made = new ArrayList<>(saved);
            undoable = 0;
        } else {
            made.add(step);
            undoable = Math.min(undoable + 1, 8);
        }
    }

    private static List<String> mayThrow(Name name) {
        switch (name) {
            case OPEN:
            case EXECUTE: return List.of("IllegalArgumentException", "IllegalStateException");
            case CANCEL: return List.of("NoSuchElementException");
            case DAYS: return List.of("IllegalArgumentException");
            case UNDO:
            case RESTORE: return List.of("IllegalStateException");
            case SAVE: return List.of();
            case LIMIT: return List.of("IndexOutOfBoundsException", "IllegalArgumentException",
                "UnsupportedOperationException", "IllegalStateException");
            default: return List.of("IndexOutOfBoundsException", "IllegalArgumentException", "IllegalStateException");
        }
    }

    private Step anyStep() {
        int choice = random.nextInt(100);
        if (choice < 5) {
            return new Step(Name.OPEN, random.nextInt(5), 0, 0, 0, null);
        } else if (choice < 70) {
            return plainStep(random.nextInt(40) == 0);
        } else if (choice < 78) {
            List<Step> parts = new ArrayList<>();
            for (int i = random.nextInt(4); i >= 0; i--) {
                parts.add(plainStep(false));
            }
            return new Step(Name.EXECUTE, 0, 0, 0, 0, parts);
        } else if (choice < 92) {
            return new Step(Name.UNDO, 0, 0, 0, 0, null);
        }
        return new Step(choice < 96 ? Name.SAVE : Name.RESTORE, 0, 0, 0, 0, null);
    }

    /** Returns a step that a command can ask for; a wild one has arguments from the whole range. */
    private Step plainStep(boolean wild) {
        Name[] plain = {Name.DEPOSIT, Name.DEPOSIT, Name.WITHDRAW, Name.LIMIT, Name.SEAL, Name.SEAL, Name.CANCEL, Name.DAYS};
        Name name = plain[random.nextInt(plain.length)];
        if (wild) {
            return new Step(name, random.nextInt(), random.nextInt(), random.nextInt(), random.nextInt(), null);
        }
        int account = random.nextInt(bank.accountCount() + (random.nextInt(20) == 0 ? 2 : 0) + 1) % 10;
        int other = random.nextInt(bank.accountCount() + 1);
        int amount = random.nextInt(random.nextBoolean() ? 60 : 1000);
        int soon = random.nextInt(random.nextInt(10) == 0 ? 63 : 4);
        switch (name) {
            case SEAL: return new Step(name, account, other, amount, soon, null);
            case LIMIT: return new Step(name, account, random.nextInt(510), 0, 0, null);
            case CANCEL: return new Step(name, random.nextInt(12), 0, 0, 0, null);
            case DAYS: return new Step(name, soon, 0, 0, 0, null);
            default: return new Step(name, account, amount, 0, 0, null);
        }
    }

    private void sums(String walk) {
        Check.same(walk + " totalInk", bank.totalInk(), bank.totalInkByMovements());
        Check.same(walk + " bankBalance", (long) bank.bankBalance(), bank.chargesPaid() - bank.interestPaid());
        for (int account = 0; account < bank.accountCount(); account++) {
            Check.same(walk + " net of " + account, bank.netOf(account), bank.netByTable(account));
            Check.same(walk + " covered " + account, bank.availableIn(account) >= 0, true);
        }
    }

    private void orders(String walk) {
        for (int rank = 1; rank < bank.accountCount(); rank++) {
            int before = bank.accountAtRank(rank - 1);
            int after = bank.accountAtRank(rank);
            int fall = bank.balanceOf(before) - bank.balanceOf(after);
            Check.same(walk + " rank " + rank, fall > 0 || fall == 0 && before < after, true);
        }
        for (int position = 1; position < bank.transferCount(); position++) {
            int before = bank.transferAt(position - 1);
            int after = bank.transferAt(position);
            int rise = bank.daysUntilDue(after) - bank.daysUntilDue(before);
            Check.same(walk + " position " + position, rise > 0 || rise == 0 && before < after, true);
        }
    }

    private void ways(String walk) {
        int from = random.nextInt(Math.max(bank.accountCount(), 1));
        for (int to = 0; to < bank.accountCount(); to++) {
            Check.same(walk + " leadsTo " + from + " " + to, bank.leadsTo(from, to), walks(from, to, 8));
        }
    }

    private boolean walks(int from, int to, int steps) {
        for (int i = 0; i < bank.transferCount() && steps > 0; i++) {
            int id = bank.transferAt(i);
            int next = bank.receiverOf(id);
            if (bank.senderOf(id) == from && (next == to || walks(next, to, steps - 1))) {
                return true;
            }
        }
        return false;
    }

    private void looksAhead(String walk) {
        int days = 1 + random.nextInt(random.nextInt(4) == 0 ? 60 : 4);
        InkBank ahead = twin();
        ahead.endDays(days);
        for (int account = 0; account < bank.accountCount(); account++) {
            Check.same(walk + " balanceAfter", bank.balanceAfter(account, days), ahead.balanceOf(account));
        }
        for (int i = 0; i < bank.transferCount(); i++) {
            int id = bank.transferAt(i);
            Check.same(walk + " wouldBounce " + id, bank.wouldBounce(id), bounces(id));
        }
        Check.same(walk + " state after looking ahead", Banks.state(bank), Banks.state(twin()));
    }

    /** Lets the days end on a twin on which no transfer comes after this one. */
    private boolean bounces(int id) {
        InkBank ahead = twin();
        if (ahead.daysUntilDue(id) > 0) {
            ahead.endDays(ahead.daysUntilDue(id));
        }
        for (int i = ahead.transferCount() - 1; i >= 0; i--) {
            int other = ahead.transferAt(i);
            if (other > id) {
                ahead.cancel(other);
            }
        }
        ahead.save();
        ahead.endDays(1);
        int with = ahead.bounceCount();
        ahead.restore();
        ahead.cancel(id);
        ahead.endDays(1);
        return with > ahead.bounceCount();
    }

    private void nextDay(String walk) {
        InkBank ahead = twin();
        for (int i = ahead.transferCount() - 1; i >= 0; i--) {
            ahead.cancel(ahead.transferAt(i));
        }
        int[] due = new int[ahead.accountCount()];
        for (int account = 0; account < due.length; account++) {
            due[account] = ahead.balanceOf(account) + ahead.interestOf(account);
        }
        ahead.endDays(1);
        for (int account = 0; account < due.length; account++) {
            Check.same(walk + " next day of " + account, ahead.balanceOf(account), due[account]);
        }
    }
}
