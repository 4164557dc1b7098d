import java.util.NoSuchElementException;

/** A bank whose currency is ink, counted in drops. */
public final class InkBank {
    /** Kinds of accounts. */
    public static final int CURRENT = 0, SAVINGS = 1, QUILL = 2, VAULT = 3;

    private static final int MAX_ACCOUNTS = 8, MAX_TRANSFERS = 10, MAX_MOVEMENTS = 10;
    private static final int MAX_UNDOABLE = 8, MAX_TYPED = 60;
    private static final int MAX_AMOUNT = 999, MAX_LIMIT = 500, MAX_DAYS = 60;
    private static final int MAX_BALANCE = 9999, MAX_SAVINGS_INTEREST = 30;
    private static final int QUILL_CHARGE = 5, BOUNCE_FEE = 3;
    private static final int NONE = -1;

    // Faults are codes until a call of the face throws them: so a program of commands can be
    // tried out without catching anything.
    private static final int NO_FAULT = 0, WRONG_INDEX = 1, WRONG_ARGUMENT = 2;
    private static final int UNSUPPORTED = 3, WRONG_STATE = 4, NO_ELEMENT = 5;

    private static final char DEPOSIT = 'd', WITHDRAWAL = 'w', TRANSFER = 't';
    private static final char INTEREST = 'i', CHARGE = 'c', FEE = 'f';

    private static final String KIND_LETTERS = "CSQV";

    private static final int PAY = 0, DRAW = 1, LIMIT = 2, SEND = 3, VOID = 4, WAIT = 5;
    private static final String FIRST_LETTERS = "pdlsvw";
    private static final char ANY_DIGIT = 'D', ANY_NUMBER = 'N';
    private static final int MAX_VALUES = 4, NUMBER_DIGITS = 3;

    private final Ledger now = new Ledger();
    private final Ledger trial = new Ledger();
    private final Ledger snapshot = new Ledger();
    private final History history = new History();
    private final Reader reader = new Reader();
    private final StringBuilder statement = new StringBuilder();
    private final int[][] sums = new int[MAX_ACCOUNTS][MAX_ACCOUNTS];
    private boolean saved = false;
    private int malformedAt = NONE;
    private int failedAt = NONE;

    /** Creates a bank without accounts on day 0. */
    public InkBank() {
    }

    // ---- accounts

    /** Opens an account of a kind and returns its number. */
    public int open(int kind) throws IllegalArgumentException, IllegalStateException {
        raise(now.openFault(kind));
        history.remember(now);
        return now.accounts.add(kind);
    }

    /** Deposits drops and returns the balance afterwards. */
    public int deposit(int account, int amount) throws IndexOutOfBoundsException, IllegalArgumentException, IllegalStateException {
        raise(now.payInFault(account, amount));
        history.remember(now);
        return now.payIn(account, amount);
    }

    /** Withdraws drops and returns the balance afterwards. */
    public int withdraw(int account, int amount) throws IndexOutOfBoundsException, IllegalArgumentException, IllegalStateException {
        raise(now.payOutFault(account, amount));
        history.remember(now);
        return now.payOut(account, amount);
    }

    /** Sets the overdraft limit of an account and returns the previous one. */
    public int setLimit(int account, int limit) throws IndexOutOfBoundsException, IllegalArgumentException, UnsupportedOperationException, IllegalStateException {
        raise(now.limitFault(account, limit));
        history.remember(now);
        return now.accounts.changeLimit(account, limit);
    }

    /** Returns the number of accounts. */
    public int accountCount() {
        return now.accounts.count;
    }

    /** Returns the kind of an account. */
    public int kindOf(int account) throws IndexOutOfBoundsException {
        requireAccount(account);
        return now.accounts.kinds[account];
    }

    /** Returns the balance of an account in drops. */
    public int balanceOf(int account) throws IndexOutOfBoundsException {
        requireAccount(account);
        return now.accounts.balances[account];
    }

    /** Returns the overdraft limit of an account. */
    public int limitOf(int account) throws IndexOutOfBoundsException {
        requireAccount(account);
        return now.accounts.limits[account];
    }

    /** Returns the number of drops that could be withdrawn from an account now. */
    public int availableIn(int account) throws IndexOutOfBoundsException {
        requireAccount(account);
        return now.accounts.available(account);
    }

    /** Returns whether a drop was withdrawn or sent from an account since the end of the last day. */
    public boolean wasTouched(int account) throws IndexOutOfBoundsException {
        requireAccount(account);
        return now.accounts.touched[account];
    }

    /** Returns the interest that an account would be paid now, or its charge as a negative number. */
    public int interestOf(int account) throws IndexOutOfBoundsException {
        requireAccount(account);
        return now.accounts.interest(account);
    }

    /** Returns an account in the order of balances, the greatest first. */
    public int accountAtRank(int rank) throws NoSuchElementException {
        if (!now.accounts.has(rank)) {
            throw new NoSuchElementException();
        }
        return now.accounts.atRank(rank);
    }

    /** Returns the mean balance of the accounts. */
    public double meanBalance() throws ArithmeticException {
        if (now.accounts.count < 1) {
            throw new ArithmeticException();
        }
        return (double) now.accounts.sum() / (double) now.accounts.count;
    }

    // ---- the bank

    /** Returns the balance of the bank in drops. */
    public int bankBalance() {
        return now.bank;
    }

    /** Returns the sum of all balances, that of the bank included, account by account. */
    public long totalInk() {
        return now.bank + now.accounts.sum();
    }

    /** Returns the same sum as totalInk: all deposits so far minus all withdrawals so far. */
    public long totalInkByMovements() {
        return now.deposited - now.withdrawn;
    }

    /** Returns the number of drops that have been moved by executed transfers so far. */
    public long transferredInk() {
        return now.transferred;
    }

    /** Returns the interest that has been paid so far. */
    public long interestPaid() {
        return now.interest;
    }

    /** Returns the charges and fees that have been paid so far. */
    public long chargesPaid() {
        return now.charges;
    }

    /** Returns the number of days that have ended. */
    public int day() {
        return now.today;
    }

    /** Lets days end and returns the number of transfers that are executed. */
    public int endDays(int days) throws IllegalArgumentException {
        raise(now.endDaysFault(days));
        history.remember(now);
        return now.passDays(days);
    }

    /** Returns the balance that an account would have if days ended now. */
    public int balanceAfter(int account, int days) throws IndexOutOfBoundsException, IllegalArgumentException {
        raise(now.balanceAfterFault(account, days));
        trial.copyFrom(now);
        trial.passDays(days);
        return trial.accounts.balances[account];
    }

    // ---- transfers

    /** Seals a transfer that is due after some days and returns its id. */
    public int seal(int sender, int receiver, int amount, int days) throws IndexOutOfBoundsException, IllegalArgumentException, IllegalStateException {
        raise(now.sealFault(sender, receiver, amount, days));
        history.remember(now);
        return now.transfers.add(sender, receiver, amount, now.today + days);
    }

    /** Cancels a sealed transfer and returns its amount. */
    public int cancel(int transfer) throws NoSuchElementException {
        raise(now.cancelFault(transfer));
        history.remember(now);
        return now.transfers.remove(transfer);
    }

    /** Returns the number of sealed transfers. */
    public int transferCount() {
        return now.transfers.count;
    }

    /** Returns the id of a sealed transfer in the order of due days, and of ids on the same day. */
    public int transferAt(int position) throws IndexOutOfBoundsException {
        if (position < 0 || position >= now.transfers.count) {
            throw new IndexOutOfBoundsException();
        }
        return now.transfers.idAt(position);
    }

    /** Returns the account of the sender of a sealed transfer. */
    public int senderOf(int transfer) throws NoSuchElementException {
        return now.transfers.senders[requireTransfer(transfer)];
    }

    /** Returns the account of the receiver of a sealed transfer. */
    public int receiverOf(int transfer) throws NoSuchElementException {
        return now.transfers.receivers[requireTransfer(transfer)];
    }

    /** Returns the amount of a sealed transfer. */
    public int amountOf(int transfer) throws NoSuchElementException {
        return now.transfers.amounts[requireTransfer(transfer)];
    }

    /** Returns the days until a sealed transfer is due, 0 on the present day. */
    public int daysUntilDue(int transfer) throws NoSuchElementException {
        return now.transfers.dueDays[requireTransfer(transfer)] - now.today;
    }

    /** Returns whether a sealed transfer would bounce if days ended until it is executed. */
    public boolean wouldBounce(int transfer) throws NoSuchElementException {
        int slot = requireTransfer(transfer);
        trial.copyFrom(now);
        trial.passDays(now.transfers.dueDays[slot] - now.today);
        trial.settleDueBefore(transfer);
        return !trial.covers(trial.transfers.find(transfer));
    }

    /** Returns the number of transfers that have bounced so far. */
    public int bounceCount() {
        return now.bounced;
    }

    /** Returns what an account would receive minus what it would send, transfer by transfer. */
    public int netOf(int account) throws IndexOutOfBoundsException {
        requireAccount(account);
        return now.transfers.net(account);
    }

    /** Returns the same amount as netOf, from a table of the sums between all accounts. */
    public int netByTable(int account) throws IndexOutOfBoundsException {
        requireAccount(account);
        fillSums();
        int net = 0;
        for (int other = 0; other < MAX_ACCOUNTS; other++) {
            net += sums[other][account] - sums[account][other];
        }
        return net;
    }

    /** Returns whether sealed transfers lead from one account to another one, or back to it. */
    public boolean leadsTo(int from, int to) throws IndexOutOfBoundsException {
        requireAccount(from);
        requireAccount(to);
        return now.transfers.connect(from, to);
    }

    // ---- journal

    /** Returns the number of movements in the journal. */
    public int journalLength() {
        return now.journal.length;
    }

    /** Returns the kind of a movement in the journal, the latest one being 0. */
    public char movementKind(int recency) throws NoSuchElementException {
        return now.journal.kinds[requireMovement(recency)];
    }

    /** Returns the amount of a movement in the journal, the latest one being 0. */
    public int movementAmount(int recency) throws NoSuchElementException {
        return now.journal.amounts[requireMovement(recency)];
    }

    /** Returns the account of a movement in the journal, the latest one being 0. */
    public int movementAccount(int recency) throws NoSuchElementException {
        return now.journal.accounts[requireMovement(recency)];
    }

    // ---- statement and commands

    /** Writes the statement of an account in place of the one before and returns its length. */
    public int writeStatement(int account) throws IndexOutOfBoundsException {
        requireAccount(account);
        Accounts accounts = now.accounts;
        statement.setLength(0);
        statement.append(KIND_LETTERS.charAt(accounts.kinds[account]));
        statement.append(account);
        statement.append(':');
        statement.append(accounts.balances[account]);
        statement.append('/');
        statement.append(accounts.limits[account]);
        if (accounts.touched[account]) {
            statement.append('*');
        }
        return statement.length();
    }

    /** Returns a character of the statement. */
    public char statementAt(int index) throws IndexOutOfBoundsException {
        if (index < 0 || index >= statement.length()) {
            throw new IndexOutOfBoundsException();
        }
        return statement.charAt(index);
    }

    /** Appends a character to the buffer and returns the number of characters in it. */
    public int type(char character) throws IllegalArgumentException, IllegalStateException {
        if (character < 32 || character > 126) {
            throw new IllegalArgumentException();
        }
        if (reader.length >= MAX_TYPED) {
            throw new IllegalStateException();
        }
        return reader.append(character);
    }

    /** Executes the program in the buffer, empties the buffer and returns the number of commands. */
    public int execute() throws IllegalArgumentException, IllegalStateException {
        int commands = reader.countCommands();
        if (commands < 0) {
            malformedAt = reader.position;
            reader.length = 0;
            throw new IllegalArgumentException();
        }
        int obeyed = 0;
        trial.copyFrom(now);
        reader.position = 0;
        while (obeyed < commands && reader.readCommand() && trial.obey(reader.verb, reader.values) == NO_FAULT) {
            obeyed++;
            reader.position++; // past the ";"
        }
        reader.length = 0;
        if (obeyed < commands) {
            failedAt = obeyed;
            throw new IllegalStateException();
        }
        history.remember(now);
        now.copyFrom(trial);
        return commands;
    }

    /** Returns the error position of the last malformed program. */
    public int errorPosition() throws NoSuchElementException {
        if (malformedAt < 0) {
            throw new NoSuchElementException();
        }
        return malformedAt;
    }

    /** Returns the index of the last command that failed. */
    public int failedCommand() throws NoSuchElementException {
        if (failedAt < 0) {
            throw new NoSuchElementException();
        }
        return failedAt;
    }

    // ---- undo and snapshots

    /** Undoes the last modification and returns the number that can still be undone. */
    public int undo() throws IllegalStateException {
        if (history.length < 1) {
            throw new IllegalStateException();
        }
        return history.takeBack(now);
    }

    /** Saves the state as a snapshot and returns the day. */
    public int save() {
        snapshot.copyFrom(now);
        saved = true;
        return now.today;
    }

    /** Restores the snapshot, forgets what could be undone and returns the day. */
    public int restore() throws IllegalStateException {
        if (!saved) {
            throw new IllegalStateException();
        }
        now.copyFrom(snapshot);
        history.length = 0;
        return now.today;
    }

    // ---- what the calls share

    private static void raise(int fault) {
        switch (fault) {
            case WRONG_INDEX:
                throw new IndexOutOfBoundsException();
            case WRONG_ARGUMENT:
                throw new IllegalArgumentException();
            case UNSUPPORTED:
                throw new UnsupportedOperationException();
            case WRONG_STATE:
                throw new IllegalStateException();
            case NO_ELEMENT:
                throw new NoSuchElementException();
            default:
                break;
        }
    }

    private void requireAccount(int account) {
        if (!now.accounts.has(account)) {
            throw new IndexOutOfBoundsException();
        }
    }

    private int requireTransfer(int id) {
        int slot = now.transfers.find(id);
        if (slot < 0) {
            throw new NoSuchElementException();
        }
        return slot;
    }

    private int requireMovement(int recency) {
        if (recency < 0 || recency >= now.journal.length) {
            throw new NoSuchElementException();
        }
        return now.journal.slot(recency);
    }

    private void fillSums() {
        for (int from = 0; from < MAX_ACCOUNTS; from++) {
            for (int to = 0; to < MAX_ACCOUNTS; to++) {
                sums[from][to] = 0;
            }
        }
        Transfers transfers = now.transfers;
        for (int slot = 0; slot < transfers.count; slot++) {
            sums[transfers.senders[slot]][transfers.receivers[slot]] += transfers.amounts[slot];
        }
    }

    private static boolean isIn(int value, int least, int most) {
        return value >= least && value <= most;
    }

    /** All that undo and restore bring back. */
    private static final class Ledger {
        final Accounts accounts = new Accounts();
        final Transfers transfers = new Transfers();
        final Journal journal = new Journal();
        int today;
        int bank;
        int bounced;
        long deposited;
        long withdrawn;
        long transferred;
        long interest;
        long charges;

        void copyFrom(Ledger other) {
            accounts.copyFrom(other.accounts);
            transfers.copyFrom(other.transfers);
            journal.copyFrom(other.journal);
            today = other.today;
            bank = other.bank;
            bounced = other.bounced;
            deposited = other.deposited;
            withdrawn = other.withdrawn;
            transferred = other.transferred;
            interest = other.interest;
            charges = other.charges;
        }

        int openFault(int kind) {
            if (!isIn(kind, CURRENT, VAULT)) {
                return WRONG_ARGUMENT;
            }
            return accounts.count >= MAX_ACCOUNTS ? WRONG_STATE : NO_FAULT;
        }

        int payInFault(int account, int amount) {
            int fault = argumentFault(account, amount, 1, MAX_AMOUNT);
            if (fault == NO_FAULT && accounts.balances[account] + amount > MAX_BALANCE) {
                return WRONG_STATE;
            }
            return fault;
        }

        private int argumentFault(int account, int value, int least, int most) {
            if (!accounts.has(account)) {
                return WRONG_INDEX;
            }
            return isIn(value, least, most) ? NO_FAULT : WRONG_ARGUMENT;
        }

        int payIn(int account, int amount) {
            accounts.balances[account] += amount;
            deposited += amount;
            journal.add(DEPOSIT, amount, account);
            return accounts.balances[account];
        }

        int payOutFault(int account, int amount) {
            int fault = argumentFault(account, amount, 1, MAX_AMOUNT);
            if (fault == NO_FAULT && accounts.available(account) < amount) {
                return WRONG_STATE;
            }
            return fault;
        }

        int payOut(int account, int amount) {
            accounts.balances[account] -= amount;
            accounts.touched[account] = true;
            withdrawn += amount;
            journal.add(WITHDRAWAL, amount, account);
            return accounts.balances[account];
        }

        int limitFault(int account, int limit) {
            int fault = argumentFault(account, limit, 0, MAX_LIMIT);
            if (fault != NO_FAULT) {
                return fault;
            }
            int kind = accounts.kinds[account];
            if (kind == SAVINGS || kind == VAULT) {
                return UNSUPPORTED;
            }
            return accounts.balances[account] < -limit ? WRONG_STATE : NO_FAULT;
        }

        int sealFault(int sender, int receiver, int amount, int days) {
            if (!accounts.has(sender) || !accounts.has(receiver)) {
                return WRONG_INDEX;
            }
            if (sender == receiver || !isIn(amount, 1, MAX_AMOUNT) || !isIn(days, 0, MAX_DAYS)) {
                return WRONG_ARGUMENT;
            }
            return transfers.count >= MAX_TRANSFERS ? WRONG_STATE : NO_FAULT;
        }

        int cancelFault(int id) {
            return transfers.find(id) < 0 ? NO_ELEMENT : NO_FAULT;
        }

        int endDaysFault(int days) {
            return isIn(days, 1, MAX_DAYS) ? NO_FAULT : WRONG_ARGUMENT;
        }

        int balanceAfterFault(int account, int days) {
            return argumentFault(account, days, 0, MAX_DAYS);
        }

        int passDays(int days) {
            int executed = 0;
            for (int i = 0; i < days; i++) {
                executed += settleDue();
                payInterest();
                accounts.forgetTouches();
                today++;
            }
            return executed;
        }

        /** Executes or bounces all that is due today and returns how many were executed. */
        private int settleDue() {
            int executed = 0;
            int kept = 0;
            for (int slot = 0; slot < transfers.count; slot++) {
                if (transfers.dueDays[slot] != today) {
                    transfers.copySlot(transfers, slot, kept);
                    kept++;
                } else if (settle(slot)) {
                    executed++;
                }
            }
            transfers.count = kept;
            return executed;
        }

        /** Settles what comes before a transfer that is due today; its own turn is left open. */
        void settleDueBefore(int id) {
            for (int slot = 0; slot < transfers.count && transfers.ids[slot] < id; slot++) {
                if (transfers.dueDays[slot] == today) {
                    settle(slot);
                }
            }
        }

        boolean covers(int slot) {
            return slot >= 0 && accounts.available(transfers.senders[slot]) >= transfers.amounts[slot];
        }

        private boolean settle(int slot) {
            int sender = transfers.senders[slot];
            if (!covers(slot)) {
                bounced++;
                collect(FEE, BOUNCE_FEE, sender);
                return false;
            }
            int amount = transfers.amounts[slot];
            accounts.balances[sender] -= amount;
            accounts.balances[transfers.receivers[slot]] += amount;
            accounts.touched[sender] = true;
            transferred += amount;
            journal.add(TRANSFER, amount, sender);
            return true;
        }

        /** Takes a charge or a fee for the bank, reduced so that the limit is kept. */
        private void collect(char kind, int amount, int account) {
            int taken = Math.min(amount, accounts.available(account));
            accounts.balances[account] -= taken;
            bank += taken;
            charges += taken;
            journal.add(kind, taken, account);
        }

        private void payInterest() {
            for (int account = 0; account < accounts.count; account++) {
                int due = accounts.interest(account);
                if (due < 0) {
                    collect(CHARGE, -due, account);
                } else {
                    accounts.balances[account] += due;
                    bank -= due;
                    interest += due;
                    journal.add(INTEREST, due, account);
                }
            }
        }

        /** Does what a command asks for, or nothing if that is a fault, which is returned. */
        int obey(int verb, int[] values) {
            int fault = faultOf(verb, values);
            if (fault != NO_FAULT) {
                return fault;
            }
            switch (verb) {
                case PAY:
                    payIn(values[0], values[1]);
                    break;
                case DRAW:
                    payOut(values[0], values[1]);
                    break;
                case LIMIT:
                    accounts.changeLimit(values[0], values[1]);
                    break;
                case SEND:
                    transfers.add(values[0], values[1], values[2], today + values[3]);
                    break;
                case VOID:
                    transfers.remove(values[0]);
                    break;
                default:
                    passDays(values[0]);
                    break;
            }
            return NO_FAULT;
        }

        private int faultOf(int verb, int[] values) {
            switch (verb) {
                case PAY:
                    return payInFault(values[0], values[1]);
                case DRAW:
                    return payOutFault(values[0], values[1]);
                case LIMIT:
                    return limitFault(values[0], values[1]);
                case SEND:
                    return sealFault(values[0], values[1], values[2], values[3]);
                case VOID:
                    return cancelFault(values[0]);
                default:
                    return endDaysFault(values[0]);
            }
        }
    }

    /** The accounts, in the order in which they were opened. */
    private static final class Accounts {
        int count;
        final int[] kinds = new int[MAX_ACCOUNTS];
        final int[] balances = new int[MAX_ACCOUNTS];
        final int[] limits = new int[MAX_ACCOUNTS];
        final boolean[] touched = new boolean[MAX_ACCOUNTS];

        void copyFrom(Accounts other) {
            count = other.count;
            for (int account = 0; account < count; account++) {
                kinds[account] = other.kinds[account];
                balances[account] = other.balances[account];
                limits[account] = other.limits[account];
                touched[account] = other.touched[account];
            }
        }

        boolean has(int account) {
            return account >= 0 && account < count;
        }

        int add(int kind) {
            int account = count;
            kinds[account] = kind;
            balances[account] = 0;
            limits[account] = 0;
            touched[account] = false;
            count++;
            return account;
        }

        int changeLimit(int account, int limit) {
            int previous = limits[account];
            limits[account] = limit;
            return previous;
        }

        int available(int account) {
            return balances[account] + limits[account];
        }

        void forgetTouches() {
            for (int account = 0; account < count; account++) {
                touched[account] = false;
            }
        }

        long sum() {
            long sum = 0;
            for (int account = 0; account < count; account++) {
                sum += balances[account];
            }
            return sum;
        }

        /** Returns the interest of an account, or its charge as a negative number. */
        int interest(int account) {
            int balance = balances[account];
            if (balance < 0) {
                return -Math.min(fullCharge(account), available(account));
            }
            int hundreds = Math.min(balance, MAX_BALANCE) / 100;
            switch (kinds[account]) {
                case CURRENT:
                    return hundreds;
                case SAVINGS:
                    return Math.min(3 * hundreds, MAX_SAVINGS_INTEREST);
                case VAULT:
                    return touched[account] ? 0 : 5 * hundreds;
                default:
                    return 0;
            }
        }

        private int fullCharge(int account) {
            if (kinds[account] == QUILL) {
                return QUILL_CHARGE;
            }
            return Math.max(1, -balances[account] / 50 * 2);
        }

        int atRank(int rank) {
            int found = 0;
            for (int account = 0; account < count; account++) {
                if (rankOf(account) == rank) {
                    found = account;
                }
            }
            return found;
        }

        private int rankOf(int account) {
            int before = 0;
            for (int other = 0; other < count; other++) {
                boolean greater = balances[other] > balances[account];
                boolean earlier = balances[other] == balances[account] && other < account;
                if (greater || earlier) {
                    before++;
                }
            }
            return before;
        }
    }

    /** The sealed transfers, kept in the order of their ids. */
    private static final class Transfers {
        int count;
        int nextId;
        final int[] ids = new int[MAX_TRANSFERS];
        final int[] senders = new int[MAX_TRANSFERS];
        final int[] receivers = new int[MAX_TRANSFERS];
        final int[] amounts = new int[MAX_TRANSFERS];
        final int[] dueDays = new int[MAX_TRANSFERS];

        void copyFrom(Transfers other) {
            count = other.count;
            nextId = other.nextId;
            for (int slot = 0; slot < count; slot++) {
                copySlot(other, slot, slot);
            }
        }

        void copySlot(Transfers other, int from, int to) {
            ids[to] = other.ids[from];
            senders[to] = other.senders[from];
            receivers[to] = other.receivers[from];
            amounts[to] = other.amounts[from];
            dueDays[to] = other.dueDays[from];
        }

        /** Returns the slot of a transfer, or NONE. */
        int find(int id) {
            for (int slot = 0; slot < count; slot++) {
                if (ids[slot] == id) {
                    return slot;
                }
            }
            return NONE;
        }

        int add(int sender, int receiver, int amount, int dueDay) {
            int id = nextId;
            ids[count] = id;
            senders[count] = sender;
            receivers[count] = receiver;
            amounts[count] = amount;
            dueDays[count] = dueDay;
            count++;
            nextId++;
            return id;
        }

        /** Takes a transfer out and returns its amount. */
        int remove(int id) {
            int amount = 0;
            int kept = 0;
            for (int slot = 0; slot < count; slot++) {
                if (ids[slot] == id) {
                    amount = amounts[slot];
                } else {
                    copySlot(this, slot, kept);
                    kept++;
                }
            }
            count = kept;
            return amount;
        }

        int idAt(int position) {
            int found = NONE;
            for (int slot = 0; slot < count; slot++) {
                if (positionOf(slot) == position) {
                    found = ids[slot];
                }
            }
            return found;
        }

        private int positionOf(int slot) {
            int before = 0;
            for (int other = 0; other < count; other++) {
                boolean sooner = dueDays[other] < dueDays[slot];
                boolean older = dueDays[other] == dueDays[slot] && other < slot;
                if (sooner || older) {
                    before++;
                }
            }
            return before;
        }

        int net(int account) {
            int net = 0;
            for (int slot = 0; slot < count; slot++) {
                if (receivers[slot] == account) {
                    net += amounts[slot];
                }
                if (senders[slot] == account) {
                    net -= amounts[slot];
                }
            }
            return net;
        }

        boolean connect(int from, int to) {
            int reached = 0;
            // One round goes one transfer further at least, and no way needs more steps than accounts.
            for (int round = 0; round < MAX_ACCOUNTS; round++) {
                for (int slot = 0; slot < count; slot++) {
                    int sender = senders[slot];
                    if (sender == from || (reached >> sender & 1) == 1) {
                        reached |= 1 << receivers[slot];
                    }
                }
            }
            return (reached >> to & 1) == 1;
        }
    }

    /** The latest movements, in rows that are written round and round. */
    private static final class Journal {
        int length;
        int newest;
        final char[] kinds = new char[MAX_MOVEMENTS];
        final int[] amounts = new int[MAX_MOVEMENTS];
        final int[] accounts = new int[MAX_MOVEMENTS];

        void copyFrom(Journal other) {
            length = other.length;
            newest = other.newest;
            for (int slot = 0; slot < MAX_MOVEMENTS; slot++) {
                kinds[slot] = other.kinds[slot];
                amounts[slot] = other.amounts[slot];
                accounts[slot] = other.accounts[slot];
            }
        }

        int slot(int recency) {
            return Math.floorMod(newest - recency, MAX_MOVEMENTS);
        }

        void add(char kind, int amount, int account) {
            if (amount < 1) {
                return;
            }
            newest = Math.floorMod(newest + 1, MAX_MOVEMENTS);
            kinds[newest] = kind;
            amounts[newest] = amount;
            accounts[newest] = account;
            length = Math.min(length + 1, MAX_MOVEMENTS);
        }
    }

    /** The states before the latest modifications, in a row that is written round and round. */
    private static final class History {
        int length;
        int newest;
        final Ledger[] states = new Ledger[MAX_UNDOABLE];

        History() {
            for (int slot = 0; slot < MAX_UNDOABLE; slot++) {
                states[slot] = new Ledger();
            }
        }

        void remember(Ledger state) {
            newest = Math.floorMod(newest + 1, MAX_UNDOABLE);
            states[newest].copyFrom(state);
            length = Math.min(length + 1, MAX_UNDOABLE);
        }

        /** Puts back the newest state and returns how many are left. */
        int takeBack(Ledger state) {
            state.copyFrom(states[newest]);
            newest = Math.floorMod(newest - 1, MAX_UNDOABLE);
            length--;
            return length;
        }
    }

    /** The buffer of typed characters, and what reads it by the grammar. */
    private static final class Reader {
        final char[] text = new char[MAX_TYPED];
        int length;
        int position;
        int verb;
        final int[] values = new int[MAX_VALUES];

        int append(char character) {
            text[length] = character;
            length++;
            return length;
        }

        /** Returns the number of commands, or NONE with the position at the error. */
        int countCommands() {
            position = 0;
            int commands = 0;
            while (commands <= MAX_TYPED) {
                if (!readCommand()) {
                    return NONE;
                }
                commands++;
                if (position >= length) {
                    return commands;
                }
                if (!readSign(';')) {
                    return NONE;
                }
            }
            return NONE;
        }

        /** Reads one command into verb and values, or stops at the first wrong character. */
        boolean readCommand() {
            verb = position < length ? FIRST_LETTERS.indexOf(text[position]) : NONE;
            String form = formOf(verb);
            int found = 0;
            for (int i = 0; i < form.length(); i++) {
                char sign = form.charAt(i);
                if (sign != ANY_DIGIT && sign != ANY_NUMBER) {
                    if (!readSign(sign)) {
                        return false;
                    }
                } else {
                    int value = readNumber(sign == ANY_DIGIT ? 1 : NUMBER_DIGITS);
                    if (value < 0 || found >= MAX_VALUES) {
                        return false;
                    }
                    values[found] = value;
                    found++;
                }
            }
            return !form.isEmpty();
        }

        /** Returns what a command looks like: signs, and marks for a digit and for a number. */
        private static String formOf(int verb) {
            switch (verb) {
                case PAY:
                    return "pay D N";
                case DRAW:
                    return "draw D N";
                case LIMIT:
                    return "limit D N";
                case SEND:
                    return "send DD N N";
                case VOID:
                    return "void N";
                case WAIT:
                    return "wait N";
                default:
                    return "";
            }
        }

        private boolean readSign(char sign) {
            if (position >= length || text[position] != sign) {
                return false;
            }
            position++;
            return true;
        }

        /** Returns the number of one to so many digits that stands here, or NONE. */
        private int readNumber(int mostDigits) {
            int value = NONE;
            for (int i = 0; i < mostDigits && isDigitHere(); i++) {
                value = Math.max(value, 0) * 10 + (text[position] - '0');
                position++;
            }
            return value;
        }

        private boolean isDigitHere() {
            return position < length && text[position] >= '0' && text[position] <= '9';
        }
    }
}
