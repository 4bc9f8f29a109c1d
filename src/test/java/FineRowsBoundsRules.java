/** Boundary cases, a test a sentence: the number of calls, promises 1 to 4, and what the terms say of them. */
public final class FineRowsBoundsRules {
    private static final int MIN = Integer.MIN_VALUE;
    private static final int MAX = Integer.MAX_VALUE;
    private static final Due due = new Due();
    private static final Refusal refusal = new Refusal(due);

    public static void main(String[] args) {
        theLastOfAllCalls();
        everythingFullAtOnce();
        theConstant();
        noRulesYet();
        noLoansYet();
        noDebtsYet();
        noClosedDayYet();
        theFirstThreshold();
        objectsOfTheirOwn();
        dailyCents();
        cap();
        grace();
        rulesAsTheyCome();
        tenRules();
        interestOfANewRule();
        interestUp();
        interestDown();
        interestCut();
        interestOfNoRule();
        interestByZero();
        interestByZeroAndWhatCantBe();
        closedDays();
        closedAlready();
        closedFull();
        closedFullAndAlready();
        due.end();
    }

    private static long interest(FineRows x, int rule, int up, int down) {
        return Refusal.answerOf(y -> y.interest(rule, up, down), x);
    }

    /** An object with one rule of a cent a day, up to 10000000, without grace. */
    private static FineRows withRule() {
        FineRows x = new FineRows();
        x.rule(1, 10000000, 0);
        return x;
    }

    private static void theLastOfAllCalls() {
        due.part("what it is: \"at most 512 calls after it has been made\"");
        FineRows x = new FineRows();
        for (int call = 1; call <= 511; call++) {
            due.is("call " + call + ", pay(0, 10000000)", x.pay(0, 10000000), 0);
        }
        due.is("call 512, owes(0, -1)", x.owes(0, -1), -5110000000L);
        FineRows y = withRule();
        y.loan(0, 0, 0, 0);
        for (int call = 3; call <= 511; call++) {
            due.is("call " + call + ", overdue(1, ..)", y.overdue(1, call), call);
        }
        due.is("call 512, lost(1, 7, 3)", y.lost(1, 7, 3), 1);
    }

    private static void everythingFullAtOnce() {
        due.part("terms: 10 rules, 100 closed days, 120 loans and 200 debts in one object's 512 calls");
        FineRows x = new FineRows();
        for (int n = 0; n < 10; n++) {
            due.is("rule", x.rule(1, 10000000, 0), n);
        }
        for (int n = 1; n <= 100; n++) {
            due.is("closed", x.closed(n), n);
        }
        int debts = 0;
        for (int n = 1; n <= 120; n++) {
            due.is("loan", x.loan(n % 60, n % 30, n % 10, 0), n);
            if (n <= 80) {
                due.is("lost", x.lost(n, 10000000, n), ++debts);
                due.is("found", x.found(n % 60, 100 + n), 0);
                debts++;
            } else {
                due.is("back", x.back(n, 100 + n), ++debts);
            }
        }
        due.is("debts", debts, 200);
        due.is("debt(160, 1)", x.debt(160, 1), 80);
        due.is("debt(200, 1)", x.debt(200, 1), 120);
        due.is("debt(200, 2)", x.debt(200, 2), 120);
        due.is("debt(201, 1)", x.debt(201, 1), -1);
        due.is("owes(0, -1)", x.owes(0, -1), 30 + 60 + 90 + 120);
        due.is("an 11th rule", x.rule(1, 1, 1), -1);
        due.is("a 101st closed day", x.closed(500), 0);
        due.is("a 121st loan", x.loan(59, 0, 0, 0), 0);
        due.is("pay(0, 299)", x.pay(0, 299), 4);
        due.is("owes(0, -1)", x.owes(0, -1), 1);
    }

    private static void theConstant() {
        due.part("the constants: \"NONE = -1\"");
        due.is("NONE", FineRows.NONE, -1);
    }

    private static void noRulesYet() {
        due.part("promise 1: \"No rules\"");
        refusal.is("interest(0, 1, 1)", Stories.NEW, x -> x.interest(0, 1, 1), -1);
        refusal.is("interest(0, 1, 0)", Stories.NEW, x -> x.interest(0, 1, 0), -1);
        refusal.is("loan(0, 0, 0, 0)", Stories.NEW, x -> x.loan(0, 0, 0, 0), 0);
        due.is("the first rule", new FineRows().rule(0, 0, 0), 0);
    }

    private static void noLoansYet() {
        due.part("promise 1: \"no loans\"");
        for (int loan = 0; loan <= 1; loan++) {
            int number = loan;
            refusal.is("overdue", Stories.NEW, x -> x.overdue(number, 0), -1);
            refusal.is("back", Stories.NEW, x -> x.back(number, 0), -1);
            refusal.is("lost", Stories.NEW, x -> x.lost(number, 1, 0), -1);
        }
        refusal.is("found(0, 0)", Stories.NEW, x -> x.found(0, 0), -1);
        refusal.is("found(59, 0)", Stories.NEW, x -> x.found(59, 0), -1);
        due.is("the first loan", withRule().loan(0, 0, 0, 0), 1);
    }

    private static void noDebtsYet() {
        due.part("promise 1: \"no debts\"");
        for (int debt = 0; debt <= 1; debt++) {
            int number = debt;
            refusal.is("waive", Stories.NEW, x -> x.waive(number, 0), -1);
            refusal.is("share", Stories.NEW, x -> x.share(number, 1, 1), -1);
            for (int what = 0; what <= 5; what++) {
                int asked = what;
                refusal.is("debt", Stories.NEW, x -> x.debt(number, asked), -1);
            }
        }
        FineRows x = new FineRows();
        for (int person = 0; person < 30; person++) {
            due.is("owes", x.owes(person, 1000000), 0);
            due.is("plan", x.plan(person, 1, 0), 0);
            due.is("plan", x.plan(person, 12, 11), 0);
            due.is("blocked", x.blocked(person), false);
        }
        FineRows y = withRule();
        y.loan(0, 0, 0, 0);
        due.is("the first debt", y.lost(1, 1, 0), 1);
    }

    private static void noClosedDayYet() {
        due.part("promise 1: \"no day is CLOSED\"");
        FineRows x = withRule();
        x.loan(0, 0, 0, 0);
        due.is("overdue(1, 1)", x.overdue(1, 1), 1);
        due.is("overdue(1, 1000000)", x.overdue(1, 1000000), 1000000);
        due.is("the first closed day", x.closed(0), 1);
    }

    private static void theFirstThreshold() {
        due.part("promise 1: \"the threshold of blocks is 1000 cents\"");
        due.is("threshold(1)", new FineRows().threshold(1), 1000);
        FineRows x = withRule();
        x.loan(0, 0, 0, 0);
        x.lost(1, 999, 0);
        due.is("blocked at 999", x.blocked(0), false);
        x.loan(1, 0, 0, 0);
        x.lost(2, 1, 0);
        due.is("blocked at 1000", x.blocked(0), true);
    }

    private static void objectsOfTheirOwn() {
        due.part("promise 1: a new object has nothing of another one");
        for (Stories story : new Stories[] {Stories.MIXED, Stories.TEN_RULES, Stories.CLOSED_100,
                Stories.LOANS_120, Stories.DEBTS_200}) {
            story.tell(new FineRows());
            FineRows x = new FineRows();
            due.is("debt(1, 0)", x.debt(1, 0), -1);
            due.is("owes(3, -1)", x.owes(3, -1), 0);
            due.is("threshold(1)", x.threshold(1), 1000);
            due.is("closed(12)", x.closed(12), 1);
            due.is("rule(0, 0, 0)", x.rule(0, 0, 0), 0);
            due.is("loan(2, 0, 0, 0)", x.loan(2, 0, 0, 0), 1);
        }
    }

    private static void dailyCents() {
        due.part("promise 2: \"cents a day 0 .. 100000\"");
        FineRows x = new FineRows();
        due.is("rule(0, 10000000, 0)", x.rule(0, 10000000, 0), 0);
        due.is("rule(100000, 10000000, 0)", x.rule(100000, 10000000, 0), 1);
        x.loan(0, 0, 0, 0);
        x.loan(1, 0, 1, 0);
        due.is("0 cents a day", x.overdue(1, 1000000), 0);
        due.is("100000 cents a day, one", x.overdue(2, 1), 100000);
        due.is("100000 cents a day, two", x.overdue(2, 2), 200000);
        for (int cents : new int[] {-1, MIN, 100001, MAX}) {
            refusal.is("rule(" + cents + ", 0, 0)", Stories.MIXED, y -> y.rule(cents, 0, 0), -1);
        }
    }

    private static void cap() {
        due.part("promise 2: \"cap 0 .. 10000000\"");
        FineRows x = new FineRows();
        due.is("rule(100000, 0, 0)", x.rule(100000, 0, 0), 0);
        due.is("rule(100000, 10000000, 0)", x.rule(100000, 10000000, 0), 1);
        x.loan(0, 0, 0, 0);
        x.loan(1, 0, 1, 0);
        due.is("a cap of 0", x.overdue(1, 1000000), 0);
        due.is("a day before the highest cap", x.overdue(2, 99), 9900000);
        due.is("at the highest cap", x.overdue(2, 100), 10000000);
        due.is("behind the highest cap", x.overdue(2, 101), 10000000);
        for (int most : new int[] {-1, MIN, 10000001, MAX}) {
            refusal.is("rule(0, " + most + ", 0)", Stories.MIXED, y -> y.rule(0, most, 0), -1);
        }
    }

    private static void grace() {
        due.part("promise 2: \"grace 0 .. 365\"");
        FineRows x = new FineRows();
        due.is("rule(1, 10000000, 0)", x.rule(1, 10000000, 0), 0);
        due.is("rule(1, 10000000, 365)", x.rule(1, 10000000, 365), 1);
        x.loan(0, 0, 0, 0);
        x.loan(1, 0, 1, 0);
        due.is("no grace, the due day", x.overdue(1, 0), 0);
        due.is("no grace, one day", x.overdue(1, 1), 1);
        due.is("the longest grace, its last day", x.overdue(2, 365), 0);
        due.is("the longest grace, one day more", x.overdue(2, 366), 366);
        for (int days : new int[] {-1, MIN, 366, MAX}) {
            refusal.is("rule(0, 0, " + days + ")", Stories.MIXED, y -> y.rule(0, 0, days), -1);
        }
    }

    private static void rulesAsTheyCome() {
        due.part("terms: \"A RULE, 0 .. 9 as they come\"");
        FineRows x = new FineRows();
        for (int number = 0; number < 10; number++) {
            due.is("a rule that can't be", x.rule(-1, 0, 0), -1);
            due.is("a rule as another one", x.rule(number / 2, 10000000, 0), number);
        }
        for (int number = 0; number < 10; number++) {
            int loan = x.loan(number, 0, number, 0);
            due.is("overdue by rule " + number, x.overdue(loan, 1), number / 2);
        }
    }

    private static void tenRules() {
        due.part("promise 2: \"NONE if .. there are 10\"");
        refusal.is("an 11th rule", Stories.TEN_RULES, x -> x.rule(0, 0, 0), -1);
        refusal.is("an 11th rule that can't be", Stories.TEN_RULES, x -> x.rule(0, 0, 366), -1);
        FineRows x = new FineRows();
        for (int number = 0; number < 10; number++) {
            due.is("interest(" + number + ", 1, 1) before it is", interest(x, number, 1, 1), -1);
            due.is("loan by rule " + number + " before it is", x.loan(0, 0, number, 0), 0);
            due.is("rule(1, 1, 1)", x.rule(1, 1, 1), number);
            due.is("interest(" + number + ", 1, 1)", interest(x, number, 1, 1), 100000);
        }
        due.is("an 11th rule", x.rule(1, 1, 1), -1);
        due.is("interest(10, 1, 1)", interest(x, 10, 1, 1), -1);
    }

    private static void interestOfANewRule() {
        due.part("promise 2: \"INTEREST is 0\"");
        FineRows x = withRule();
        interest(x, 0, 1, 1);
        x.rule(1, 1, 0);
        x.loan(0, 0, 1, 0);
        x.lost(1, 10000000, 0);
        due.is("debt(1, 5)", x.debt(1, 5), 0);
        due.is("owes(0, 1000000)", x.owes(0, 1000000), 10000000);
    }

    private static void interestUp() {
        due.part("promise 3: \"up 0 .. 1000\"");
        FineRows x = withRule();
        x.loan(0, 0, 0, 0);
        x.lost(1, 10000000, 0);
        due.is("interest(0, 1000, 1)", interest(x, 0, 1000, 1), 100000000);
        due.is("debt(1, 5)", x.debt(1, 5), 10000000000L);
        due.is("interest(0, 0, 1)", interest(x, 0, 0, 1), 0);
        due.is("debt(1, 5)", x.debt(1, 5), 0);
        for (int up : new int[] {-1, MIN, 1001, MAX}) {
            refusal.is("interest(0, " + up + ", 1)", Stories.MIXED, y -> y.interest(0, up, 1), -1);
        }
    }

    private static void interestDown() {
        due.part("promise 3: \"down (below 0, above 1000000) can't be\"");
        FineRows x = withRule();
        x.loan(0, 0, 0, 0);
        x.lost(1, 10000000, 0);
        due.is("interest(0, 1, 1)", interest(x, 0, 1, 1), 100000);
        due.is("debt(1, 5)", x.debt(1, 5), 10000000);
        due.is("interest(0, 1, 1000000)", interest(x, 0, 1, 1000000), 0);
        due.is("debt(1, 5)", x.debt(1, 5), 10);
        due.is("interest(0, 1000, 1000000)", interest(x, 0, 1000, 1000000), 100);
        for (int down : new int[] {-1, MIN, 1000001, MAX}) {
            refusal.is("interest(0, 1, " + down + ")", Stories.MIXED, y -> y.interest(0, 1, down), -1);
        }
    }

    private static void interestCut() {
        due.part("promise 3: \"100000 * up / down, cut\"");
        FineRows x = withRule();
        due.is("interest(0, 1, 99999)", interest(x, 0, 1, 99999), 1);
        due.is("interest(0, 1, 100000)", interest(x, 0, 1, 100000), 1);
        due.is("interest(0, 1, 100001)", interest(x, 0, 1, 100001), 0);
        due.is("interest(0, 2, 3)", interest(x, 0, 2, 3), 66666);
        due.is("interest(0, 1000, 999)", interest(x, 0, 1000, 999), 100100);
    }

    private static void interestOfNoRule() {
        due.part("promise 3: \"NONE if there is no such rule\"");
        for (int rule : new int[] {-1, MIN, 3, 9, 10, MAX}) {
            refusal.is("interest(" + rule + ", 1, 1)", Stories.MIXED, x -> x.interest(rule, 1, 1), -1);
        }
        for (int rule : new int[] {-1, 10, 11}) {
            refusal.is("interest(" + rule + ", 1, 1)", Stories.TEN_RULES, x -> x.interest(rule, 1, 1), -1);
        }
        FineRows x = new FineRows();
        Stories.MIXED.tell(x);
        due.is("interest(0, 1, 1), the first", interest(x, 0, 1, 1), 100000);
        due.is("interest(2, 1, 1), the last", interest(x, 2, 1, 1), 100000);
    }

    private static void interestByZero() {
        due.part("promise 3: \"ArithmeticException if down is 0 (the interest stays)\"");
        refusal.is("interest(0, 5, 0)", Stories.MIXED, x -> x.interest(0, 5, 0), Refusal.THROWS);
        refusal.is("interest(1, 0, 0)", Stories.MIXED, x -> x.interest(1, 0, 0), Refusal.THROWS);
        refusal.is("interest(2, 1000, 0)", Stories.MIXED, x -> x.interest(2, 1000, 0), Refusal.THROWS);
        refusal.is("interest(9, 1, 0)", Stories.TEN_RULES, x -> x.interest(9, 1, 0), Refusal.THROWS);
    }

    /** NONE stands before the exception in the document, so what can't be by the rule or by up stays NONE. */
    private static void interestByZeroAndWhatCantBe() {
        due.part("promise 3: down is 0, and there is no such rule, or up can't be");
        refusal.is("interest(3, 1, 0)", Stories.MIXED, x -> x.interest(3, 1, 0), -1);
        refusal.is("interest(-1, 1, 0)", Stories.MIXED, x -> x.interest(-1, 1, 0), -1);
        refusal.is("interest(0, -1, 0)", Stories.MIXED, x -> x.interest(0, -1, 0), -1);
        refusal.is("interest(0, 1001, 0)", Stories.MIXED, x -> x.interest(0, 1001, 0), -1);
    }

    private static void closedDays() {
        due.part("promise 4: \"0 if it .. can't be\", DAYS 0 .. 1000000");
        FineRows x = withRule();
        x.loan(0, 0, 0, 999998);
        x.loan(1, 0, 0, 0);
        due.is("closed(0)", x.closed(0), 1);
        due.is("closed(1000000)", x.closed(1000000), 2);
        due.is("closed(999999)", x.closed(999999), 3);
        due.is("overdue up to the last day, which is closed", x.overdue(1, 1000000), 0);
        due.is("closed(1)", x.closed(1), 4);
        due.is("overdue(2, 1)", x.overdue(2, 1), 0);
        due.is("overdue(2, 2)", x.overdue(2, 2), 1);
        for (long day : new long[] {-1, Long.MIN_VALUE, 1000001, 1L << 32, (1L << 32) + 1, Long.MAX_VALUE}) {
            refusal.is("closed(" + day + ")", Stories.MIXED, y -> y.closed(day), 0);
            refusal.is("closed(" + day + ")", Stories.NEW, y -> y.closed(day), 0);
        }
    }

    private static void closedAlready() {
        due.part("promise 4: \"0 if it is already\"");
        refusal.is("closed(12), the first one", Stories.MIXED, x -> x.closed(12), 0);
        refusal.is("closed(20)", Stories.MIXED, x -> x.closed(20), 0);
        refusal.is("closed(1000), the last one", Stories.MIXED, x -> x.closed(1000), 0);
        FineRows x = new FineRows();
        Stories.MIXED.tell(x);
        due.is("closed(11), a day before", x.closed(11), 4);
        due.is("closed(13), a day behind", x.closed(13), 5);
    }

    private static void closedFull() {
        due.part("promise 4: \"0 if .. there are 100\", terms: \"CLOSED DAYS, at most 100\"");
        FineRows x = withRule();
        x.loan(0, 0, 0, 0);
        for (int day = 1; day <= 100; day++) {
            due.is("closed(" + day + ")", x.closed(day), day);
        }
        due.is("closed(101)", x.closed(101), 0);
        due.is("the 100th is closed", x.overdue(1, 100), 0);
        due.is("the 101st is open", x.overdue(1, 101), 1);
        refusal.is("closed(5)", Stories.CLOSED_100, y -> y.closed(5), 0);
        refusal.is("closed(1000000)", Stories.CLOSED_100, y -> y.closed(1000000), 0);
    }

    private static void closedFullAndAlready() {
        due.part("promise 4: there are 100, and it is already, or can't be");
        refusal.is("closed(299), the 100th", Stories.CLOSED_100, x -> x.closed(299), 0);
        refusal.is("closed(12), the first", Stories.CLOSED_100, x -> x.closed(12), 0);
        refusal.is("closed(-1)", Stories.CLOSED_100, x -> x.closed(-1), 0);
    }
}
