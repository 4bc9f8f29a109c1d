import java.math.BigInteger;
import java.util.ArrayList;
import java.util.Comparator;
import java.util.HashMap;
import java.util.List;
import java.util.Map;
import java.util.Random;
import java.util.TreeSet;

/**
 * Long runs of calls, made from fixed seeds, each answer held against a second telling of the document
 * that keeps what happened to each debt and works every answer out anew from that.
 */
public final class FineRowsModel {
    private static final int RUNS = 1500;
    private static final int CALLS = 512;
    private static final Due due = new Due();
    /** In place of an answer where the call throws. */
    private static final long THROWS = Long.MIN_VALUE;
    private static final int[] ODD_INTS = {
        Integer.MIN_VALUE, -1000000, -2, -1, 0, 1, 9, 10, 12, 13, 29, 30, 59, 60, 120, 121, 200, 201, 365, 366,
        1000, 1001, 100000, 100001, 1000000, 1000001, 10000000, 10000001, Integer.MAX_VALUE};
    private static final long[] ODD_DAYS = {
        Long.MIN_VALUE, Integer.MIN_VALUE, -1, 0, 1, 999970, 999999, 1000000, 1000001, Integer.MAX_VALUE,
        1L << 32, Long.MAX_VALUE};

    public static void main(String[] args) {
        for (int run = 0; run < RUNS && due.isClean(); run++) {
            due.part("seed " + run);
            new Run(run).go();
        }
        due.end();
    }

    private static final class Run {
        private final Random random;
        private final FineRows rows = new FineRows();
        private final Model model = new Model();
        /** Of 100 arguments, how many are odd ones. */
        private final int oddness;
        private final int persons;
        private final int items;
        private final int days;
        /** A run that mostly lends, loses and finds again comes to 120 loans and 200 debts. */
        private final boolean crowded;
        /** A run that closes days with every other call comes to 100 closed days. */
        private final boolean closing;
        private final StringBuilder told = new StringBuilder();

        Run(int seed) {
            random = new Random(seed);
            oddness = random.nextInt(4) == 0 ? 10 : 1;
            persons = random.nextBoolean() ? 3 : 30;
            items = random.nextBoolean() ? 8 : 60;
            days = random.nextBoolean() ? 120 : 1000001;
            crowded = seed % 3 == 0;
            closing = seed % 3 == 1;
        }

        void go() {
            for (int n = 0; n < 3; n++) {
                step(0);
            }
            for (int n = 3; n < CALLS && due.isClean(); n++) {
                if (crowded && random.nextInt(8) != 0 && model.debts.size() < 200) {
                    makeDebts();
                } else {
                    step(closing && random.nextBoolean() ? 2 : random.nextInt(16));
                }
            }
        }

        /** A call that can be done: what is lost is found, what is lent is lost, or something is lent. */
        private void makeDebts() {
            for (int n = 0; n < model.loans.size(); n++) {
                Lending loan = model.loans.get(n);
                long late = Math.min(1000000, loan.dueDay + random.nextInt(20));
                if (loan.state.equals("lost") && random.nextInt(4) == 0) {
                    check("found " + loan.item + " " + late, rows.found(loan.item, late), model.found(loan.item, late));
                    return;
                }
                if (loan.state.equals("lent") && random.nextInt(4) != 0) {
                    int cents = cents();
                    check("lost " + (n + 1) + " " + cents + " " + late,
                            rows.lost(n + 1, cents, late), model.lost(n + 1, cents, late));
                    return;
                }
            }
            int item = random.nextInt(items);
            int person = random.nextInt(persons);
            long day = random.nextInt(days);
            check("loan " + item + " " + person + " 0 " + day,
                    rows.loan(item, person, 0, day), model.loan(item, person, 0, day));
        }

        private boolean isOdd() {
            return random.nextInt(100) < oddness;
        }

        private int number(int least, int most) {
            if (isOdd()) {
                return ODD_INTS[random.nextInt(ODD_INTS.length)];
            }
            return least + random.nextInt(most - least + 1);
        }

        private long day() {
            return isOdd() ? ODD_DAYS[random.nextInt(ODD_DAYS.length)] : random.nextInt(days);
        }

        private int cents() {
            return number(1, random.nextInt(5) == 0 ? 10000000 : 800);
        }

        private int newLoan() {
            int count = model.loans.size();
            return number(Math.max(0, count - 8), count + 1);
        }

        private void check(String call, long got, long want) {
            told.append(call).append(' ').append(got).append('\n');
            if (got != want) {
                due.fail(told.toString());
                due.is(call, got, want);
            }
        }

        private void step(int call) {
            int a = 0;
            int b = 0;
            int c = 0;
            long d = day();
            try {
                switch (call) {
                    case 0: a = number(0, 200); b = number(0, 5000); c = number(0, 4);
                        check("rule " + a + " " + b + " " + c, rows.rule(a, b, c), model.rule(a, b, c)); break;
                    case 1: a = number(0, 3); b = number(0, 20); c = number(0, 100);
                        check("interest " + a + " " + b + " " + c, rowsInterest(a, b, c), model.interest(a, b, c)); break;
                    case 2: check("closed " + d, rows.closed(d), model.closed(d)); break;
                    case 3: a = number(0, items - 1); b = number(0, persons - 1); c = number(0, 3);
                        check("loan " + a + " " + b + " " + c + " " + d, rows.loan(a, b, c, d), model.loan(a, b, c, d)); break;
                    case 4: a = newLoan(); check("overdue " + a + " " + d, rows.overdue(a, d), model.overdue(a, d)); break;
                    case 5: a = newLoan(); check("back " + a + " " + d, rows.back(a, d), model.back(a, d)); break;
                    case 6: a = newLoan(); b = cents();
                        check("lost " + a + " " + b + " " + d, rows.lost(a, b, d), model.lost(a, b, d)); break;
                    case 7: a = number(0, items - 1); check("found " + a + " " + d, rows.found(a, d), model.found(a, d)); break;
                    case 8: a = number(0, persons - 1); b = cents();
                        check("pay " + a + " " + b, rows.pay(a, b), model.pay(a, b)); break;
                    default: ask(call, d); break;
                }
            } catch (RuntimeException e) {
                due.fail(told + "call " + call + " " + a + " " + b + " " + c + " " + d + " threw " + e);
            }
        }

        private void ask(int call, long d) {
            int debt = number(0, model.debts.size() + 1);
            int person = number(0, persons - 1);
            int b;
            int c;
            switch (call) {
                case 9: b = number(0, 800); check("waive " + debt + " " + b, rows.waive(debt, b), model.waive(debt, b)); break;
                case 10: check("owes " + person + " " + d, rows.owes(person, d), model.owes(person, d)); break;
                case 11: b = number(1, 12); c = number(0, 12);
                    check("plan " + person + " " + b + " " + c, rows.plan(person, b, c), model.plan(person, b, c)); break;
                case 12: b = number(1, 1500); check("threshold " + b, rows.threshold(b), model.threshold(b)); break;
                case 13: check("blocked " + person, rows.blocked(person) ? 1 : 0, model.blocked(person) ? 1 : 0); break;
                case 14: b = number(0, 5); check("debt " + debt + " " + b, rows.debt(debt, b), model.debt(debt, b)); break;
                default: b = number(1, 12); c = number(1, 12);
                    check("share " + debt + " " + b + " " + c, rows.share(debt, b, c), model.share(debt, b, c)); break;
            }
        }

        private long rowsInterest(int rule, int up, int down) {
            try {
                return rows.interest(rule, up, down);
            } catch (ArithmeticException e) {
                return THROWS;
            }
        }
    }

    private static final class Terms {
        long cents;
        long cap;
        long grace;
        BigInteger up = BigInteger.ZERO;
        BigInteger down = BigInteger.ONE;
    }

    private static final class Lending {
        int item;
        int person;
        Terms terms;
        long dueDay;
        String state = "lent";
        Owing loss;
    }

    private static final class Owing {
        int number;
        Lending by;
        long amount;
        long day;
        int sort;
        boolean counts = true;
        final List<Long> payments = new ArrayList<>();
        final List<Long> waivers = new ArrayList<>();

        long left() {
            return counts ? amount - sum(payments) - sum(waivers) : 0;
        }

        long interest(long periods) {
            BigInteger product = BigInteger.valueOf(left()).multiply(by.terms.up).multiply(BigInteger.valueOf(periods));
            return product.divide(by.terms.down).longValueExact();
        }

        static long sum(List<Long> parts) {
            return parts.stream().mapToLong(Long::longValue).sum();
        }
    }

    private static final class Model {
        final List<Terms> rules = new ArrayList<>();
        final List<Lending> loans = new ArrayList<>();
        final List<Owing> debts = new ArrayList<>();
        final TreeSet<Long> closed = new TreeSet<>();
        final Map<Integer, Long> credit = new HashMap<>();
        int threshold = 1000;

        private static boolean in(long value, long least, long most) {
            return least <= value && value <= most;
        }

        private static boolean aDay(long day) {
            return in(day, 0, 1000000);
        }

        private static boolean aPerson(int person) {
            return in(person, 0, 29);
        }

        long rule(int cents, int cap, int grace) {
            boolean can = in(cents, 0, 100000) && in(cap, 0, 10000000) && in(grace, 0, 365);
            if (!can || rules.size() == 10) {
                return -1;
            }
            Terms made = new Terms();
            made.cents = cents;
            made.cap = cap;
            made.grace = grace;
            rules.add(made);
            return rules.size() - 1;
        }

        long interest(int rule, int up, int down) {
            if (!in(rule, 0, rules.size() - 1) || !in(up, 0, 1000) || !in(down, 0, 1000000)) {
                return -1;
            }
            if (down == 0) {
                return THROWS;
            }
            rules.get(rule).up = BigInteger.valueOf(up);
            rules.get(rule).down = BigInteger.valueOf(down);
            return 100000L * up / down;
        }

        long closed(long day) {
            if (!aDay(day) || closed.contains(day) || closed.size() == 100) {
                return 0;
            }
            closed.add(day);
            return closed.size();
        }

        private boolean isFree(int item) {
            return loans.stream().noneMatch(l -> l.item == item && !l.state.equals("back"));
        }

        long loan(int item, int person, int rule, long dueDay) {
            boolean can = in(item, 0, 59) && aPerson(person) && in(rule, 0, rules.size() - 1) && aDay(dueDay);
            if (!can || !isFree(item) || loans.size() == 120) {
                return 0;
            }
            Lending made = new Lending();
            made.item = item;
            made.person = person;
            made.terms = rules.get(rule);
            made.dueDay = dueDay;
            loans.add(made);
            return loans.size();
        }

        private Lending lent(int loan) {
            if (!in(loan, 1, loans.size()) || !loans.get(loan - 1).state.equals("lent")) {
                return null;
            }
            return loans.get(loan - 1);
        }

        private long late(Lending loan, long day) {
            if (day <= loan.dueDay) {
                return 0;
            }
            long open = day - loan.dueDay - closed.subSet(loan.dueDay + 1, day + 1).size();
            return open <= loan.terms.grace ? 0 : Math.min(loan.terms.cap, open * loan.terms.cents);
        }

        private Owing owe(Lending by, long amount, long day, int sort) {
            Owing made = new Owing();
            made.by = by;
            made.amount = amount;
            made.day = day;
            made.sort = sort;
            debts.add(made);
            made.number = debts.size();
            return made;
        }

        long overdue(int loan, long day) {
            return lent(loan) == null || !aDay(day) ? -1 : late(lent(loan), day);
        }

        long back(int loan, long day) {
            Lending lent = lent(loan);
            if (lent == null || !aDay(day)) {
                return -1;
            }
            long cents = late(lent, day);
            if (cents > 0 && debts.size() == 200) {
                return -1;
            }
            lent.state = "back";
            return cents > 0 ? owe(lent, cents, day, 0).number : 0;
        }

        long lost(int loan, int cents, long day) {
            Lending lent = lent(loan);
            if (lent == null || !aDay(day) || !in(cents, 1, 10000000) || debts.size() == 200) {
                return -1;
            }
            lent.state = "lost";
            lent.loss = owe(lent, cents, day, 1);
            return lent.loss.number;
        }

        long found(int item, long day) {
            Lending lost = loans.stream().filter(l -> l.item == item && l.state.equals("lost")).findFirst().orElse(null);
            if (lost == null || !aDay(day)) {
                return -1;
            }
            long cents = late(lost, day);
            if (cents > 0 && debts.size() == 200) {
                return -1;
            }
            lost.state = "back";
            lost.loss.counts = false;
            long paid = Owing.sum(lost.loss.payments);
            credit.merge(lost.person, paid, Long::sum);
            if (cents > 0) {
                owe(lost, cents, day, 0);
            }
            return paid;
        }

        private List<Owing> debtsOf(int person) {
            List<Owing> all = new ArrayList<>();
            for (Owing debt : debts) {
                if (debt.by.person == person) {
                    all.add(debt);
                }
            }
            all.sort(Comparator.comparingLong((Owing o) -> o.day).thenComparingInt(o -> o.number));
            return all;
        }

        long pay(int person, int cents) {
            if (!aPerson(person) || !in(cents, 1, 10000000)) {
                return -1;
            }
            long purse = cents + credit.getOrDefault(person, 0L);
            int got = 0;
            for (Owing debt : debtsOf(person)) {
                long part = Math.min(purse, debt.left());
                if (part > 0) {
                    debt.payments.add(part);
                    purse -= part;
                    got++;
                }
            }
            credit.put(person, purse);
            return got;
        }

        private Owing owing(int debt) {
            return in(debt, 1, debts.size()) ? debts.get(debt - 1) : null;
        }

        long waive(int debt, int right) {
            if (owing(debt) == null || !in(right, 0, 100000)) {
                return -1;
            }
            long left = owing(debt).left();
            if (left > right) {
                return 0;
            }
            owing(debt).waivers.add(left);
            return left;
        }

        private long leftOf(int person) {
            return debtsOf(person).stream().mapToLong(Owing::left).sum();
        }

        long owes(int person, long day) {
            if (!aPerson(person)) {
                return -1000000000000001L;
            }
            long sum = leftOf(person) - credit.getOrDefault(person, 0L);
            if (day >= 0) {
                long at = day > 1000000 ? 1000000 : day;
                for (Owing debt : debtsOf(person)) {
                    sum += debt.interest(at < debt.day ? 0 : (at - debt.day) / 30);
                }
            }
            return sum;
        }

        long plan(int person, int parts, int i) {
            if (!aPerson(person) || !in(parts, 1, 12) || !in(i, 0, parts - 1)) {
                return 0;
            }
            long[] plan = new long[parts];
            long left = leftOf(person);
            for (int part = 0; part < parts; part++) {
                plan[part] = left / parts;
            }
            for (int part = 0; part < left - left / parts * parts; part++) {
                plan[part]++;
            }
            return plan[i];
        }

        long threshold(int cents) {
            int was = threshold;
            if (!in(cents, 1, 1000000)) {
                return -1;
            }
            threshold = cents;
            return was;
        }

        boolean blocked(int person) {
            return aPerson(person) && owes(person, -1) >= threshold;
        }

        long debt(int debt, int what) {
            Owing asked = owing(debt);
            if (asked == null || !in(what, 0, 5)) {
                return -1;
            }
            long[] answers = {asked.by.person, asked.amount, asked.left(), asked.day, asked.sort, asked.interest(1)};
            return answers[what];
        }

        long share(int debt, int up, int down) {
            boolean can = in(up, 1, 1000) && in(down, 1, 1000) && up <= down;
            return owing(debt) == null || !can ? -1 : owing(debt).amount * up / down;
        }
    }
}
