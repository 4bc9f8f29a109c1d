/**
 * Fines and fees of a lending house: overdue loans, losses, payments, waivers, interest and blocks.
 * The numbered promises that this class keeps stand in the document DOC.md.
 */
public final class FineRows {
    public static final int NONE = -1;

    private static final int PERSONS = 30;
    private static final int ITEMS = 60;
    private static final int MOST_RULES = 10;
    private static final int MOST_LOANS = 120;
    private static final int MOST_DEBTS = 200;
    private static final int MOST_CLOSED = 100;
    private static final long LAST_DAY = 1000000L;

    private static final int MOST_DAILY_CENTS = 100000;
    private static final int MOST_CENTS = 10000000;
    private static final int MOST_GRACE = 365;
    private static final int MOST_UP = 1000;
    private static final int MOST_DOWN = 1000000;
    private static final int MOST_RIGHT = 100000;
    private static final int MOST_PARTS = 12;
    private static final int MOST_THRESHOLD = 1000000;
    private static final int FIRST_THRESHOLD = 1000;
    private static final int MOST_SHARES = 1000;

    private static final int INTEREST_SAMPLE = 100000;
    private static final long INTEREST_DAYS = 30L;
    private static final long OWES_NO_PERSON = NONE - 1000000000000000L;

    private static final int SORT_OVERDUE = 0;
    private static final int SORT_LOSS = 1;

    private final Rule[] rules;
    private int ruleCount;
    private final Loan[] loans;
    private int loanCount;
    /** By item: the loan under which it is lent or lost; null while the item can be lent. */
    private final Loan[] loanOfItem;
    private final DebtRows debts;
    private final ClosedDays closedDays;
    private final long[] credits;
    private int blockCents;

    public FineRows() {
        rules = new Rule[MOST_RULES];
        loans = new Loan[MOST_LOANS];
        loanOfItem = new Loan[ITEMS];
        debts = new DebtRows();
        closedDays = new ClosedDays();
        credits = new long[PERSONS];
        blockCents = FIRST_THRESHOLD;
    }

    public int rule(int cents, int cap, int grace) {
        if (!isWithin(cents, 0, MOST_DAILY_CENTS) || !isWithin(cap, 0, MOST_CENTS)
                || !isWithin(grace, 0, MOST_GRACE) || ruleCount >= MOST_RULES) {
            return NONE;
        }
        int number = ruleCount;
        rules[number] = new Rule(cents, cap, grace);
        ruleCount++;
        return number;
    }

    public int interest(int rule, int up, int down) throws ArithmeticException {
        Rule changed = ruleNumbered(rule);
        if (changed == null || !isWithin(up, 0, MOST_UP) || !isWithin(down, 0, MOST_DOWN)) {
            return NONE;
        }
        if (down == 0) {
            throw new ArithmeticException("interest divided by 0");
        }
        changed.up = up;
        changed.down = down;
        return INTEREST_SAMPLE * up / down;
    }

    public int closed(long day) {
        if (!isDay(day) || !closedDays.add(day)) {
            return 0;
        }
        return closedDays.count;
    }

    public int loan(int item, int person, int rule, long due) {
        Rule by = ruleNumbered(rule);
        if (!isItem(item) || !isPerson(person) || by == null || !isDay(due)) {
            return 0;
        }
        if (loanOfItem[item] != null || loanCount >= MOST_LOANS) {
            return 0;
        }
        Loan made = new Loan(item, person, by, due);
        loanOfItem[item] = made;
        loans[loanCount] = made;
        loanCount++;
        return loanCount;
    }

    public long overdue(int loan, long day) {
        Loan lent = lentLoanNumbered(loan);
        if (lent == null || !isDay(day)) {
            return NONE;
        }
        return overdueCents(lent, day);
    }

    public int back(int loan, long day) {
        Loan lent = lentLoanNumbered(loan);
        if (lent == null || !isDay(day)) {
            return NONE;
        }
        long cents = overdueCents(lent, day);
        if (cents > 0 && debts.isFull()) {
            return NONE;
        }
        endLoan(lent);
        return chargeOverdue(lent, cents, day);
    }

    public int lost(int loan, int cents, long day) {
        Loan lent = lentLoanNumbered(loan);
        if (lent == null || !isDay(day) || !isWithin(cents, 1, MOST_CENTS) || debts.isFull()) {
            return NONE;
        }
        int number = debts.add(lent, SORT_LOSS, cents, day);
        lent.loss = debts.numbered(number);
        return number;
    }

    public long found(int item, long day) {
        Loan lostBy = isItem(item) ? loanOfItem[item] : null;
        Debt loss = lostBy != null ? lostBy.loss : null;
        if (lostBy == null || loss == null || !isDay(day)) {
            return NONE;
        }
        long cents = overdueCents(lostBy, day);
        if (cents > 0 && debts.isFull()) {
            return NONE;
        }
        long credit = loss.paid;
        loss.left = 0;
        addCredit(lostBy.person, credit);
        endLoan(lostBy);
        chargeOverdue(lostBy, cents, day);
        return credit;
    }

    public int pay(int person, int cents) {
        if (!isPerson(person) || !isWithin(cents, 1, MOST_CENTS)) {
            return NONE;
        }
        long purse = credits[person] + cents;
        int served = 0;
        for (int i = 0; i < debts.count && purse > 0; i++) {
            Debt debt = debts.inOrder(i);
            if (debt != null && debt.person == person && debt.left > 0) {
                purse -= debt.take(purse);
                served++;
            }
        }
        credits[person] = purse;
        return served;
    }

    public long waive(int debt, int right) {
        Debt waived = debts.numbered(debt);
        if (waived == null || !isWithin(right, 0, MOST_RIGHT)) {
            return NONE;
        }
        if (waived.left > right) {
            return 0;
        }
        long cents = waived.left;
        waived.left = 0;
        return cents;
    }

    public long owes(int person, long day) {
        if (!isPerson(person)) {
            return OWES_NO_PERSON;
        }
        long sum = balance(person);
        if (day >= 0) {
            sum += debts.interestOf(person, Math.min(day, LAST_DAY));
        }
        return sum;
    }

    public long plan(int person, int parts, int i) {
        if (!isPerson(person) || !isWithin(parts, 1, MOST_PARTS) || !isWithin(i, 0, parts - 1)) {
            return 0;
        }
        long whole = debts.leftOf(person);
        long part = whole / parts;
        long over = whole % parts;
        return i < over ? part + 1 : part;
    }

    public int threshold(int cents) {
        if (!isWithin(cents, 1, MOST_THRESHOLD)) {
            return NONE;
        }
        int before = blockCents;
        blockCents = cents;
        return before;
    }

    public boolean blocked(int person) {
        return isPerson(person) && balance(person) >= blockCents;
    }

    public long debt(int debt, int what) {
        Debt asked = debts.numbered(debt);
        if (asked == null) {
            return NONE;
        }
        switch (what) {
            case 0:
                return asked.person;
            case 1:
                return asked.amount;
            case 2:
                return asked.left;
            case 3:
                return asked.day;
            case 4:
                return asked.sort;
            case 5:
                return asked.interestAt(asked.day + INTEREST_DAYS);
            default:
                return NONE;
        }
    }

    public long share(int debt, int up, int down) {
        Debt shared = debts.numbered(debt);
        if (shared == null || !isWithin(down, 1, MOST_SHARES) || !isWithin(up, 1, down)) {
            return NONE;
        }
        return shared.amount * up / down;
    }

    private static boolean isWithin(int value, int least, int most) {
        return value >= least && value <= most;
    }

    private static boolean isDay(long day) {
        return day >= 0 && day <= LAST_DAY;
    }

    private static boolean isPerson(int person) {
        return isWithin(person, 0, PERSONS - 1);
    }

    private static boolean isItem(int item) {
        return isWithin(item, 0, ITEMS - 1);
    }

    private Rule ruleNumbered(int number) {
        return isWithin(number, 0, ruleCount - 1) ? rules[number] : null;
    }

    /** Null if there is no such loan, or it has come back, or is lost. */
    private Loan lentLoanNumbered(int number) {
        if (!isWithin(number, 1, loanCount)) {
            return null;
        }
        Loan loan = loans[number - 1];
        return loan != null && loan.isLent() ? loan : null;
    }

    private long overdueCents(Loan loan, long day) {
        return loan.rule.centsFor(closedDays.openDays(loan.due, day));
    }

    private void endLoan(Loan loan) {
        loan.ended = true;
        if (isItem(loan.item)) {
            loanOfItem[loan.item] = null;
        }
    }

    private int chargeOverdue(Loan loan, long cents, long day) {
        return cents > 0 ? debts.add(loan, SORT_OVERDUE, cents, day) : 0;
    }

    private void addCredit(int person, long cents) {
        if (isPerson(person)) {
            credits[person] += cents;
        }
    }

    private long balance(int person) {
        return isPerson(person) ? debts.leftOf(person) - credits[person] : 0;
    }

    private static final class Rule {
        final int cents;
        final int cap;
        final int grace;
        int up;
        /** 0 until the rule is given an interest. */
        int down;

        Rule(int cents, int cap, int grace) {
            this.cents = cents;
            this.cap = cap;
            this.grace = grace;
        }

        long centsFor(long openDays) {
            return openDays > grace ? Math.min(openDays * cents, (long) cap) : 0;
        }

        /** Cut once for all periods: to cut in each of them would lose cents. */
        long interestFor(long left, long periods) {
            return down > 0 ? left * up * periods / down : 0;
        }
    }

    private static final class Loan {
        final int item;
        final int person;
        final Rule rule;
        final long due;
        /** The debt of its loss; null if it was never lost. */
        Debt loss;
        /** It came back, or was found again. */
        boolean ended;

        Loan(int item, int person, Rule rule, long due) {
            this.item = item;
            this.person = person;
            this.rule = rule;
            this.due = due;
        }

        boolean isLent() {
            return !ended && loss == null;
        }
    }

    private static final class Debt {
        final int person;
        final Rule rule;
        final int sort;
        final long amount;
        final long day;
        long left;
        /** Kept beside what is left, as a loss that is found gives back what was paid, not what was waived. */
        long paid;

        Debt(Loan loan, int sort, long amount, long day) {
            this.person = loan.person;
            this.rule = loan.rule;
            this.sort = sort;
            this.amount = amount;
            this.day = day;
            this.left = amount;
        }

        long take(long purse) {
            long cents = Math.min(purse, left);
            left -= cents;
            paid += cents;
            return cents;
        }

        long interestAt(long at) {
            return at > day ? rule.interestFor(left, (at - day) / INTEREST_DAYS) : 0;
        }
    }

    private static final class DebtRows {
        private final Debt[] byNumber = new Debt[MOST_DEBTS];
        /** By day, then by number: kept so at each new debt, that a payment need not sort. */
        private final Debt[] byDay = new Debt[MOST_DEBTS];
        int count;

        boolean isFull() {
            return count >= MOST_DEBTS;
        }

        Debt numbered(int number) {
            return isWithin(number, 1, count) ? byNumber[number - 1] : null;
        }

        Debt inOrder(int place) {
            return isWithin(place, 0, count - 1) ? byDay[place] : null;
        }

        int add(Loan loan, int sort, long amount, long day) {
            if (isFull()) {
                return NONE;
            }
            Debt debt = new Debt(loan, sort, amount, day);
            int place = count;
            while (place > 0 && cameBehind(byDay[place - 1], day)) {
                byDay[place] = byDay[place - 1];
                place--;
            }
            byDay[place] = debt;
            byNumber[count] = debt;
            count++;
            return count;
        }

        private static boolean cameBehind(Debt debt, long day) {
            return debt != null && debt.day > day;
        }

        long leftOf(int person) {
            long sum = 0;
            for (int i = 0; i < count; i++) {
                Debt debt = byNumber[i];
                if (debt != null && debt.person == person) {
                    sum += debt.left;
                }
            }
            return sum;
        }

        long interestOf(int person, long at) {
            long sum = 0;
            for (int i = 0; i < count; i++) {
                Debt debt = byNumber[i];
                if (debt != null && debt.person == person) {
                    sum += debt.interestAt(at);
                }
            }
            return sum;
        }
    }

    private static final class ClosedDays {
        private final long[] days = new long[MOST_CLOSED];
        int count;

        /** False if the day is closed already, or no more can be. */
        boolean add(long day) {
            if (count >= MOST_CLOSED || countBetween(day - 1, day) > 0) {
                return false;
            }
            days[count] = day;
            count++;
            return true;
        }

        /** Of the days behind the first, up to and with the last, those that are closed. */
        private int countBetween(long first, long last) {
            int between = 0;
            for (int i = 0; i < count; i++) {
                if (days[i] > first && days[i] <= last) {
                    between++;
                }
            }
            return between;
        }

        long openDays(long first, long last) {
            return last > first ? last - first - countBetween(first, last) : 0;
        }
    }
}
