/** The promises of the document, one method each: ordinary inputs, the edges, and wrong inputs. */
public final class FineRowsPromises {
    private static final long NO_PERSON = -1000000000000001L;
    private static final Due due = new Due();

    public static void main(String[] args) {
        newObject();
        rule();
        interest();
        closed();
        loan();
        overdue();
        back();
        lost();
        found();
        foundAfterWaiver();
        pay();
        payInOrder();
        waive();
        owes();
        plan();
        threshold();
        blocked();
        debt();
        share();
        fullDebts();
        due.end();
    }

    /** An object with rule 0: 10 cents a day, up to 1000, without grace. */
    private static FineRows withRule() {
        FineRows x = new FineRows();
        x.rule(10, 1000, 0);
        return x;
    }

    /** Makes a debt by a loss: a loan of the item to the person, lost on the day. */
    private static int lose(FineRows x, int item, int person, int cents, long day) {
        return x.lost(x.loan(item, person, 0, day), cents, day);
    }

    private static void newObject() {
        due.part("promise 1");
        FineRows x = new FineRows();
        due.is("NONE", FineRows.NONE, -1);
        interestIs(x, 0, 1, 1, -1);
        due.is("loan(0, 0, 0, 0)", x.loan(0, 0, 0, 0), 0);
        due.is("overdue(1, 0)", x.overdue(1, 0), -1);
        due.is("back(1, 0)", x.back(1, 0), -1);
        due.is("debt(1, 0)", x.debt(1, 0), -1);
        due.is("waive(1, 0)", x.waive(1, 0), -1);
        for (int person = 0; person < 30; person++) {
            due.is("owes", x.owes(person, 1000000), 0);
            due.is("blocked", x.blocked(person), false);
        }
        due.is("threshold(5)", x.threshold(5), 1000);
        due.is("closed(0)", x.closed(0), 1);
        due.is("rule(0, 0, 0)", x.rule(0, 0, 0), 0);
        FineRows y = new FineRows();
        due.is("another object's closed(0)", y.closed(0), 1);
        due.is("another object's threshold(7)", y.threshold(7), 1000);
    }

    private static void rule() {
        due.part("promise 2");
        FineRows x = new FineRows();
        due.is("rule(-1, 0, 0)", x.rule(-1, 0, 0), -1);
        due.is("rule(100001, 0, 0)", x.rule(100001, 0, 0), -1);
        due.is("rule(0, -1, 0)", x.rule(0, -1, 0), -1);
        due.is("rule(0, 10000001, 0)", x.rule(0, 10000001, 0), -1);
        due.is("rule(0, 0, -1)", x.rule(0, 0, -1), -1);
        due.is("rule(0, 0, 366)", x.rule(0, 0, 366), -1);
        due.is("rule(MIN, MIN, MIN)", x.rule(Integer.MIN_VALUE, Integer.MIN_VALUE, Integer.MIN_VALUE), -1);
        due.is("rule(MAX, MAX, MAX)", x.rule(Integer.MAX_VALUE, Integer.MAX_VALUE, Integer.MAX_VALUE), -1);
        due.is("rule(100000, 10000000, 365)", x.rule(100000, 10000000, 365), 0);
        for (int number = 1; number < 10; number++) {
            due.is("rule(0, 0, 0)", x.rule(0, 0, 0), number);
        }
        due.is("an 11th rule", x.rule(0, 0, 0), -1);
        interestIs(x, 9, 1, 1, 100000);
        for (int number = 10; number < 14; number++) {
            interestIs(x, number, 1, 1, -1);
            due.is("loan by no rule", x.loan(0, 0, number, 0), 0);
        }
        FineRows y = withRule();
        lose(y, 0, 0, 1000, 0);
        due.is("a rule's first interest", y.owes(0, 1000000), 1000);
    }

    private static void interestIs(FineRows x, int rule, int up, int down, long want) {
        String call = "interest(" + rule + ", " + up + ", " + down + ")";
        try {
            due.is(call, x.interest(rule, up, down), want);
        } catch (ArithmeticException e) {
            due.fail(call + " threw, due is " + want);
        }
    }

    private static void interestThrows(FineRows x, int rule, int up) {
        try {
            due.fail("interest by 0 answered " + x.interest(rule, up, 0));
        } catch (ArithmeticException e) {
            return;
        }
    }

    private static void interest() {
        due.part("promise 3");
        FineRows x = withRule();
        interestIs(x, 0, 5, 100, 5000);
        interestIs(x, 0, 1, 3, 33333);
        interestIs(x, 0, 0, 1, 0);
        interestIs(x, 0, 1000, 1, 100000000);
        interestIs(x, 0, 1, 1000000, 0);
        interestIs(x, 0, 1000, 1000000, 100);
        interestIs(x, 0, 10, 100, 10000);
        int debt = lose(x, 0, 0, 1000, 0);
        due.is("debt(1, 5)", x.debt(debt, 5), 100);
        interestIs(x, -1, 1, 1, -1);
        interestIs(x, 1, 1, 1, -1);
        interestIs(x, 10, 1, 1, -1);
        interestIs(x, Integer.MIN_VALUE, 1, 1, -1);
        interestIs(x, Integer.MAX_VALUE, 1, 1, -1);
        interestIs(x, 0, -1, 1, -1);
        interestIs(x, 0, 1001, 1, -1);
        interestIs(x, 0, 1, -1, -1);
        interestIs(x, 0, 1, 1000001, -1);
        interestIs(x, 0, 1, Integer.MIN_VALUE, -1);
        // NONE is told first: what can't be by the rule or by up stays NONE with a down of 0.
        interestIs(x, 1, 1, 0, -1);
        interestIs(x, 0, 1001, 0, -1);
        interestIs(x, 0, -1, 0, -1);
        interestThrows(x, 0, 5);
        interestThrows(x, 0, 0);
        due.is("debt(1, 5) behind what can't be", x.debt(debt, 5), 100);
        interestIs(x, 0, 20, 100, 20000);
        due.is("debt(1, 5) by the new interest", x.debt(debt, 5), 200);
    }

    private static void closed() {
        due.part("promise 4");
        FineRows x = withRule();
        due.is("closed(-1)", x.closed(-1), 0);
        due.is("closed(1000001)", x.closed(1000001), 0);
        due.is("closed(MIN)", x.closed(Long.MIN_VALUE), 0);
        due.is("closed(MAX)", x.closed(Long.MAX_VALUE), 0);
        due.is("closed(0)", x.closed(0), 1);
        due.is("closed(1000000)", x.closed(1000000), 2);
        due.is("closed(0) again", x.closed(0), 0);
        due.is("closed(1000000) again", x.closed(1000000), 0);
        for (int n = 3; n <= 100; n++) {
            due.is("closed", x.closed(n * 2L), n);
        }
        due.is("a 101st closed day", x.closed(1), 0);
        x.loan(0, 0, 0, 5);
        due.is("overdue(1, 10)", x.overdue(1, 10), 20);
        due.is("the 101st stays open", x.overdue(1, 1), 0);
        x.loan(1, 0, 0, 0);
        due.is("overdue(2, 1)", x.overdue(2, 1), 10);
    }

    private static void loan() {
        due.part("promise 5");
        FineRows x = withRule();
        due.is("loan(-1, 0, 0, 0)", x.loan(-1, 0, 0, 0), 0);
        due.is("loan(60, 0, 0, 0)", x.loan(60, 0, 0, 0), 0);
        due.is("loan(0, -1, 0, 0)", x.loan(0, -1, 0, 0), 0);
        due.is("loan(0, 30, 0, 0)", x.loan(0, 30, 0, 0), 0);
        due.is("loan(0, 0, -1, 0)", x.loan(0, 0, -1, 0), 0);
        due.is("loan(0, 0, 1, 0)", x.loan(0, 0, 1, 0), 0);
        due.is("loan(0, 0, 0, -1)", x.loan(0, 0, 0, -1), 0);
        due.is("loan(0, 0, 0, 1000001)", x.loan(0, 0, 0, 1000001), 0);
        due.is("loan(MIN, MIN, MIN, MIN)",
                x.loan(Integer.MIN_VALUE, Integer.MIN_VALUE, Integer.MIN_VALUE, Long.MIN_VALUE), 0);
        due.is("loan(59, 29, 0, 1000000)", x.loan(59, 29, 0, 1000000), 1);
        due.is("loan of a lent item", x.loan(59, 0, 0, 0), 0);
        due.is("loan(0, 0, 0, 0)", x.loan(0, 0, 0, 0), 2);
        due.is("lost(2, 5, 0)", x.lost(2, 5, 0), 1);
        due.is("loan of a lost item", x.loan(0, 0, 0, 0), 0);
        due.is("found(0, 0)", x.found(0, 0), 0);
        due.is("loan of a found item", x.loan(0, 0, 0, 0), 3);
        due.is("back(1, 0)", x.back(1, 0), 0);
        due.is("loan of an item that came back", x.loan(59, 1, 0, 0), 4);
        for (int n = 5; n <= 120; n++) {
            x.back(n - 1, 0);
            due.is("loan", x.loan(59, 1, 0, 0), n);
        }
        due.is("a 121st loan", x.loan(58, 1, 0, 0), 0);
        due.is("back(120, 0)", x.back(120, 0), 0);
        due.is("a 121st loan, as one came back", x.loan(58, 1, 0, 0), 0);
    }

    private static void overdue() {
        due.part("promise 6");
        FineRows x = new FineRows();
        x.rule(50, 1000, 2);
        x.rule(100000, 10000000, 0);
        x.rule(100, 0, 0);
        x.loan(0, 0, 0, 100);
        due.is("before the due day", x.overdue(1, 0), 0);
        due.is("on the due day", x.overdue(1, 100), 0);
        due.is("in grace", x.overdue(1, 102), 0);
        due.is("behind grace", x.overdue(1, 103), 150);
        due.is("just below the cap", x.overdue(1, 119), 950);
        due.is("at the cap", x.overdue(1, 120), 1000);
        due.is("above the cap", x.overdue(1, 121), 1000);
        due.is("on the last day", x.overdue(1, 1000000), 1000);
        x.closed(100);
        due.is("the due day closed", x.overdue(1, 103), 150);
        x.closed(104);
        due.is("a day behind it closed", x.overdue(1, 103), 150);
        due.is("the day itself closed", x.overdue(1, 104), 150);
        due.is("one behind the closed day", x.overdue(1, 105), 200);
        x.closed(101);
        due.is("in grace by closed days", x.overdue(1, 103), 0);
        x.loan(1, 0, 1, 0);
        due.is("a sum above ints", x.overdue(2, 1000000), 10000000);
        x.loan(2, 0, 2, 0);
        due.is("a cap of 0", x.overdue(3, 5), 0);
        due.is("day -1", x.overdue(1, -1), -1);
        due.is("day 1000001", x.overdue(1, 1000001), -1);
        due.is("day MIN", x.overdue(1, Long.MIN_VALUE), -1);
        due.is("loan 0", x.overdue(0, 5), -1);
        due.is("loan -1", x.overdue(-1, 5), -1);
        due.is("loan 4", x.overdue(4, 5), -1);
        due.is("loan MAX", x.overdue(Integer.MAX_VALUE, 5), -1);
        due.is("loan MIN", x.overdue(Integer.MIN_VALUE, 5), -1);
        x.back(1, 0);
        due.is("come back", x.overdue(1, 105), -1);
        x.lost(2, 5, 0);
        due.is("lost", x.overdue(2, 105), -1);
        x.found(1, 0);
        due.is("found", x.overdue(2, 105), -1);
    }

    private static void back() {
        due.part("promise 7");
        FineRows x = withRule();
        x.loan(0, 3, 0, 10);
        x.loan(1, 4, 0, 10);
        x.loan(2, 5, 0, 10);
        due.is("day -1", x.back(1, -1), -1);
        due.is("day 1000001", x.back(1, 1000001), -1);
        due.is("loan 0", x.back(0, 10), -1);
        due.is("loan 4", x.back(4, 10), -1);
        due.is("in time", x.back(1, 10), 0);
        due.is("again", x.back(1, 20), -1);
        due.is("late", x.back(2, 13), 1);
        due.is("its person", x.debt(1, 0), 4);
        due.is("its amount", x.debt(1, 1), 30);
        due.is("its day", x.debt(1, 3), 13);
        due.is("its sort", x.debt(1, 4), 0);
        due.is("owes(3, -1)", x.owes(3, -1), 0);
        x.lost(3, 100, 10);
        due.is("lost", x.back(3, 20), -1);
        x.found(2, 10);
        due.is("found", x.back(3, 20), -1);

        FineRows y = new FineRows();
        y.rule(1, 1, 0);
        y.loan(0, 0, 0, 0);
        due.is("late by one cent", y.back(1, 1), 1);
        due.is("debt(1, 1)", y.debt(1, 1), 1);
    }

    private static void lost() {
        due.part("promise 8");
        FineRows x = withRule();
        x.loan(0, 3, 0, 10);
        due.is("cents 0", x.lost(1, 0, 10), -1);
        due.is("cents -1", x.lost(1, -1, 10), -1);
        due.is("cents 10000001", x.lost(1, 10000001, 10), -1);
        due.is("day -1", x.lost(1, 1, -1), -1);
        due.is("day 1000001", x.lost(1, 1, 1000001), -1);
        due.is("loan 0", x.lost(0, 1, 10), -1);
        due.is("loan 2", x.lost(2, 1, 10), -1);
        due.is("of the most cents", x.lost(1, 10000000, 20), 1);
        due.is("its person", x.debt(1, 0), 3);
        due.is("its amount", x.debt(1, 1), 10000000);
        due.is("its day", x.debt(1, 3), 20);
        due.is("its sort", x.debt(1, 4), 1);
        due.is("no overdue debt beside it", x.debt(2, 0), -1);
        due.is("again", x.lost(1, 5, 20), -1);
        x.loan(1, 3, 0, 10);
        due.is("of one cent", x.lost(2, 1, 5), 2);
        x.loan(2, 3, 0, 10);
        x.back(3, 10);
        due.is("come back", x.lost(3, 5, 10), -1);
        x.found(1, 5);
        due.is("found", x.lost(2, 5, 10), -1);
        x.loan(1, 4, 0, 10);
        due.is("the found item lost by another loan", x.lost(4, 7, 10), 3);
    }

    private static void found() {
        due.part("promise 9");
        FineRows x = withRule();
        x.loan(0, 3, 0, 100);
        due.is("lent", x.found(0, 100), -1);
        due.is("never lent", x.found(1, 100), -1);
        due.is("item -1", x.found(-1, 100), -1);
        due.is("item 60", x.found(60, 100), -1);
        due.is("item MIN", x.found(Integer.MIN_VALUE, 100), -1);
        x.lost(1, 500, 110);
        x.pay(3, 200);
        due.is("day -1", x.found(0, -1), -1);
        due.is("day 1000001", x.found(0, 1000001), -1);
        due.is("partly paid", x.found(0, 120), 200);
        due.is("the loss", x.debt(1, 2), 0);
        due.is("the loss's amount", x.debt(1, 1), 500);
        due.is("the overdue debt's amount", x.debt(2, 1), 200);
        due.is("credit is not paid to it", x.debt(2, 2), 200);
        due.is("its person", x.debt(2, 0), 3);
        due.is("its day", x.debt(2, 3), 120);
        due.is("its sort", x.debt(2, 4), 0);
        due.is("owes(3, -1)", x.owes(3, -1), 0);
        due.is("again", x.found(0, 120), -1);
        due.is("a cent more goes with the credit", x.pay(3, 1), 1);
        due.is("owes(3, -1)", x.owes(3, -1), -1);

        FineRows y = withRule();
        y.loan(0, 3, 0, 100);
        y.lost(1, 500, 110);
        due.is("unpaid, in time", y.found(0, 100), 0);
        due.is("no debt instead", y.debt(2, 0), -1);
        due.is("owes(3, 1000000)", y.owes(3, 1000000), 0);
        due.is("the loss got nothing", y.pay(3, 5), 0);
        due.is("a second loan", y.loan(0, 3, 0, 100), 2);
        due.is("lent again", y.found(0, 100), -1);
        due.is("lost again", y.lost(2, 50, 100), 2);
        due.is("paid by the second", y.pay(3, 5), 1);
        due.is("found again", y.found(0, 99), 10);
    }

    private static void foundAfterWaiver() {
        due.part("promise 9, waived");
        FineRows x = withRule();
        x.loan(0, 3, 0, 100);
        x.lost(1, 500, 110);
        x.pay(3, 200);
        due.is("waive(1, 300)", x.waive(1, 300), 300);
        due.is("what was waived is no credit", x.found(0, 100), 200);
        due.is("owes(3, -1)", x.owes(3, -1), -200);
    }

    private static void pay() {
        due.part("promise 10");
        FineRows x = withRule();
        due.is("person -1", x.pay(-1, 5), -1);
        due.is("person 30", x.pay(30, 5), -1);
        due.is("person MIN", x.pay(Integer.MIN_VALUE, 5), -1);
        due.is("cents 0", x.pay(0, 0), -1);
        due.is("cents -1", x.pay(0, -1), -1);
        due.is("cents 10000001", x.pay(0, 10000001), -1);
        due.is("no debts", x.pay(0, 30), 0);
        due.is("owes(0, -1)", x.owes(0, -1), -30);
        lose(x, 0, 0, 100, 5);
        lose(x, 1, 1, 100, 5);
        lose(x, 2, 0, 100, 5);
        due.is("owes(0, -1)", x.owes(0, -1), 170);
        due.is("just one", x.pay(0, 70), 1);
        due.is("debt(1, 2)", x.debt(1, 2), 0);
        due.is("debt(3, 2)", x.debt(3, 2), 100);
        due.is("the paid one gets no more", x.pay(0, 1), 1);
        due.is("debt(3, 2)", x.debt(3, 2), 99);
        due.is("all but one cent", x.pay(0, 98), 1);
        due.is("the last cent", x.pay(0, 1), 1);
        due.is("debt(3, 2)", x.debt(3, 2), 0);
        due.is("another's debt", x.debt(2, 2), 100);
        lose(x, 3, 0, 99, 5);
        due.is("above what is left", x.pay(0, 10000000), 1);
        due.is("owes(0, -1)", x.owes(0, -1), -9999901);
        for (int n = 0; n < 300; n++) {
            x.pay(0, 10000000);
        }
        due.is("a credit above ints", x.owes(0, -1), -3009999901L);
        due.is("person 29", x.pay(29, 1), 0);
    }

    private static void payInOrder() {
        due.part("promise 10, order");
        FineRows x = withRule();
        lose(x, 0, 0, 100, 30);
        lose(x, 1, 0, 100, 20);
        lose(x, 2, 0, 100, 30);
        lose(x, 3, 0, 100, 10);
        lose(x, 4, 0, 100, 20);
        int[] order = {4, 2, 5, 1, 3};
        for (int debt : order) {
            due.is("part of a debt", x.pay(0, 60), 1);
            due.is("what is left of debt " + debt, x.debt(debt, 2), 40);
            due.is("the rest of a debt", x.pay(0, 40), 1);
            due.is("what is left of debt " + debt, x.debt(debt, 2), 0);
        }
        FineRows y = withRule();
        lose(y, 0, 0, 100, 30);
        lose(y, 1, 0, 100, 20);
        lose(y, 2, 0, 100, 10);
        due.is("pay(0, 201)", y.pay(0, 201), 3);
        due.is("debt(1, 2)", y.debt(1, 2), 99);
    }

    private static void waive() {
        due.part("promise 11");
        FineRows x = withRule();
        lose(x, 0, 0, 100, 5);
        due.is("right -1", x.waive(1, -1), -1);
        due.is("right 100001", x.waive(1, 100001), -1);
        due.is("debt 0", x.waive(0, 5), -1);
        due.is("debt 2", x.waive(2, 5), -1);
        due.is("debt MIN", x.waive(Integer.MIN_VALUE, 5), -1);
        due.is("right 0", x.waive(1, 0), 0);
        due.is("right 99", x.waive(1, 99), 0);
        due.is("debt(1, 2)", x.debt(1, 2), 100);
        x.pay(0, 1);
        due.is("as much as is left", x.waive(1, 99), 99);
        due.is("debt(1, 2)", x.debt(1, 2), 0);
        due.is("debt(1, 1)", x.debt(1, 1), 100);
        due.is("owes(0, -1)", x.owes(0, -1), 0);
        due.is("nothing left", x.waive(1, 100000), 0);
        lose(x, 1, 0, 100001, 5);
        due.is("above all rights", x.waive(2, 100000), 0);
        x.pay(0, 1);
        due.is("the highest right", x.waive(2, 100000), 100000);
    }

    private static void owes() {
        due.part("promise 12");
        FineRows x = withRule();
        interestIs(x, 0, 1, 3, 33333);
        due.is("person -1", x.owes(-1, 5), NO_PERSON);
        due.is("person 30", x.owes(30, -5), NO_PERSON);
        due.is("person MAX", x.owes(Integer.MAX_VALUE, 5), NO_PERSON);
        lose(x, 0, 0, 100, 50);
        lose(x, 1, 0, 100, 60);
        lose(x, 2, 1, 100, 50);
        due.is("no day", x.owes(0, -1), 200);
        due.is("no day, MIN", x.owes(0, Long.MIN_VALUE), 200);
        due.is("before the debts", x.owes(0, 0), 200);
        due.is("not yet 30 days", x.owes(0, 79), 200);
        due.is("30 days of one", x.owes(0, 80), 233);
        due.is("30 days of both, each cut", x.owes(0, 90), 266);
        due.is("60 days, cut once for all", x.owes(0, 110), 299);
        due.is("60 days of both", x.owes(0, 120), 332);
        due.is("the last day", x.owes(0, 1000000), 200 + 2 * (100L * 33331 / 3));
        due.is("behind the last day", x.owes(0, 1000001), x.owes(0, 1000000));
        due.is("far behind the last day", x.owes(0, Long.MAX_VALUE), x.owes(0, 1000000));
        x.pay(0, 40);
        due.is("interest of what is left now", x.owes(0, 80), 160 + 20);
        x.pay(0, 200);
        due.is("less credit", x.owes(0, 1000000), -40);
        due.is("another one", x.owes(1, 80), 133);

        FineRows y = withRule();
        interestIs(y, 0, 1000, 1, 100000000);
        lose(y, 0, 0, 10000000, 0);
        due.is("the most interest", y.owes(0, 1000000), 10000000L + 10000000L * 1000 * 33333);
    }

    private static void plan() {
        due.part("promise 13");
        FineRows x = withRule();
        due.is("nothing left", x.plan(0, 3, 0), 0);
        lose(x, 0, 0, 100, 5);
        lose(x, 1, 0, 10, 5);
        lose(x, 2, 1, 1000, 5);
        due.is("one part", x.plan(0, 1, 0), 110);
        due.is("the first of 12", x.plan(0, 12, 0), 10);
        due.is("the second of 12", x.plan(0, 12, 1), 10);
        due.is("the third of 12", x.plan(0, 12, 2), 9);
        due.is("the last of 12", x.plan(0, 12, 11), 9);
        due.is("part 12 of 12", x.plan(0, 12, 12), 0);
        due.is("part -1", x.plan(0, 12, -1), 0);
        due.is("part MIN", x.plan(0, 12, Integer.MIN_VALUE), 0);
        due.is("even parts", x.plan(0, 11, 10), 10);
        due.is("13 parts", x.plan(0, 13, 0), 0);
        due.is("0 parts", x.plan(0, 0, 0), 0);
        due.is("-1 parts", x.plan(0, -1, 0), 0);
        due.is("MIN parts", x.plan(0, Integer.MIN_VALUE, 0), 0);
        due.is("person -1", x.plan(-1, 1, 0), 0);
        due.is("person 30", x.plan(30, 1, 0), 0);
        x.pay(0, 108);
        due.is("fewer cents than parts, 1", x.plan(0, 3, 1), 1);
        due.is("fewer cents than parts, 2", x.plan(0, 3, 2), 0);
        x.pay(1, 1100);
        lose(x, 3, 1, 500, 5);
        due.is("credit is not taken off", x.plan(1, 2, 1), 250);
        due.is("nothing is paid by a plan", x.owes(1, -1), 400);
    }

    private static void threshold() {
        due.part("promise 14");
        FineRows x = new FineRows();
        due.is("threshold(0)", x.threshold(0), -1);
        due.is("threshold(-1)", x.threshold(-1), -1);
        due.is("threshold(1000001)", x.threshold(1000001), -1);
        due.is("threshold(1000000)", x.threshold(1000000), 1000);
        due.is("threshold(1000001)", x.threshold(1000001), -1);
        due.is("threshold(1)", x.threshold(1), 1000000);
        due.is("threshold(7)", x.threshold(7), 1);
    }

    private static void blocked() {
        due.part("promise 15");
        FineRows x = withRule();
        interestIs(x, 0, 1, 1, 100000);
        lose(x, 0, 0, 999, 0);
        due.is("below", x.blocked(0), false);
        lose(x, 1, 0, 1, 0);
        due.is("as much", x.blocked(0), true);
        due.is("another one", x.blocked(1), false);
        x.pay(0, 1);
        due.is("below by a payment", x.blocked(0), false);
        x.threshold(999);
        due.is("a lower threshold", x.blocked(0), true);
        due.is("person -1", x.blocked(-1), false);
        due.is("person 30", x.blocked(30), false);
        due.is("person MIN", x.blocked(Integer.MIN_VALUE), false);
        x.pay(0, 2000);
        lose(x, 2, 0, 2000, 0);
        due.is("owes with credit", x.owes(0, -1), 999);
        due.is("as much with credit", x.blocked(0), true);
        x.threshold(1000);
        due.is("below with credit", x.blocked(0), false);
    }

    private static void debt() {
        due.part("promise 16");
        FineRows x = withRule();
        interestIs(x, 0, 7, 3, 233333);
        lose(x, 0, 29, 100, 1000000);
        due.is("person", x.debt(1, 0), 29);
        due.is("amount", x.debt(1, 1), 100);
        due.is("left", x.debt(1, 2), 100);
        due.is("day", x.debt(1, 3), 1000000);
        due.is("sort", x.debt(1, 4), 1);
        due.is("interest, also behind the last day", x.debt(1, 5), 233);
        due.is("what 6", x.debt(1, 6), -1);
        due.is("what -1", x.debt(1, -1), -1);
        due.is("what MAX", x.debt(1, Integer.MAX_VALUE), -1);
        due.is("debt 0", x.debt(0, 0), -1);
        due.is("debt -1", x.debt(-1, 0), -1);
        due.is("debt 2", x.debt(2, 0), -1);
        due.is("debt MAX", x.debt(Integer.MAX_VALUE, 0), -1);
        due.is("debt MIN", x.debt(Integer.MIN_VALUE, 0), -1);
        x.pay(29, 94);
        due.is("amount behind a payment", x.debt(1, 1), 100);
        due.is("left behind a payment", x.debt(1, 2), 6);
        due.is("interest behind a payment", x.debt(1, 5), 14);
    }

    private static void share() {
        due.part("promise 17");
        FineRows x = withRule();
        lose(x, 0, 0, 10000000, 0);
        due.is("a third", x.share(1, 1, 3), 3333333);
        due.is("all", x.share(1, 1000, 1000), 10000000);
        due.is("one of one", x.share(1, 1, 1), 10000000);
        due.is("the least", x.share(1, 1, 1000), 10000);
        due.is("999 of 1000", x.share(1, 999, 1000), 9990000);
        due.is("up 0", x.share(1, 0, 3), -1);
        due.is("up -1", x.share(1, -1, 3), -1);
        due.is("up above down", x.share(1, 4, 3), -1);
        due.is("down 0", x.share(1, 1, 0), -1);
        due.is("both 0", x.share(1, 0, 0), -1);
        due.is("down -1", x.share(1, -1, -1), -1);
        due.is("down 1001", x.share(1, 1, 1001), -1);
        due.is("both 1001", x.share(1, 1001, 1001), -1);
        due.is("debt 0", x.share(0, 1, 2), -1);
        due.is("debt 2", x.share(2, 1, 2), -1);
        x.pay(0, 10000000);
        due.is("by the amount, not by what is left", x.share(1, 1, 2), 5000000);
    }

    /** 120 loans make 200 debts only where a found loss leaves a second debt, so 98 losses are found again. */
    private static void fullDebts() {
        due.part("promises 7, 8, 9 at 200 debts");
        FineRows x = new FineRows();
        x.rule(1, 1000, 0);
        interestIs(x, 0, 1, 10, 10000);
        int loan = 0;
        int debts = 0;
        for (int n = 0; n < 98; n++) {
            loan = x.loan(0, 1, 0, 0);
            due.is("lost", x.lost(loan, 5, 0), ++debts);
            due.is("found", x.found(0, 1), 0);
            debts++;
        }
        loan = x.loan(0, 0, 0, 0);
        due.is("lost", x.lost(loan, 50, 0), ++debts);
        int second = x.loan(1, 0, 0, 0);
        due.is("lost", x.lost(second, 60, 0), ++debts);
        int third = x.loan(2, 0, 0, 0);
        int fourth = x.loan(3, 0, 0, 0);
        due.is("the 199th", x.lost(x.loan(4, 0, 0, 0), 70, 0), ++debts);
        due.is("the 200th", x.back(x.loan(5, 0, 0, 0), 1), ++debts);
        due.is("200 debts", debts, 200);
        due.is("pay(0, 55)", x.pay(0, 55), 2);
        due.is("owes(0, -1)", x.owes(0, -1), 126);
        due.is("owes(0, 30)", x.owes(0, 30), 126 + 5 + 7);
        due.is("owes(1, 31)", x.owes(1, 31), 98);
        due.is("a late one can't come back", x.back(third, 1), -1);
        due.is("it is still lent", x.overdue(third, 1), 1);
        due.is("it can't be lost", x.lost(third, 5, 0), -1);
        due.is("it is not lost", x.overdue(third, 1), 1);
        due.is("one in time comes back", x.back(fourth, 0), 0);
        due.is("a late one can't be found", x.found(0, 1), -1);
        due.is("nothing changed by that", x.owes(0, -1), 126);
        due.is("one in time is found", x.found(0, 0), 50);
        due.is("a partly paid one in time is found", x.found(1, 0), 5);
        due.is("owes(0, -1)", x.owes(0, -1), 16);
        due.is("debt(200, 2)", x.debt(200, 2), 1);
        due.is("debt(201, 2)", x.debt(201, 2), -1);
        due.is("the 200th is paid behind the others", x.pay(0, 15), 1);
        due.is("debt(199, 2)", x.debt(199, 2), 0);
    }
}
