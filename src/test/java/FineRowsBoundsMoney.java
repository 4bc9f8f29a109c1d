/** Boundary cases, a test a sentence: promises 10 to 17, and what the terms say of debts and of interest. */
public final class FineRowsBoundsMoney {
    private static final int MIN = Integer.MIN_VALUE;
    private static final int MAX = Integer.MAX_VALUE;
    private static final long NO_PERSON = -1000000000000001L;
    private static final int[] NO_PERSONS = {-1, MIN, 30, MAX};
    /** In MIXED: below the first debt, behind the sixth and last one, and far off. */
    private static final int[] NO_DEBTS = {0, -1, MIN, 7, 200, 201, MAX};
    private static final Due due = new Due();
    private static final Refusal refusal = new Refusal(due);

    public static void main(String[] args) {
        payPersons();
        payCents();
        payWithoutDebts();
        payLessThanIsLeft();
        payAllThatIsLeft();
        payWithCredit();
        payInOrderByDay();
        payInOrderByNumber();
        payOnlyItsOwnDebts();
        payCountsWhatGotSomething();
        payTwoHundredDebts();
        waiveRights();
        waiveWhatIsNotAbove();
        waiveWhatIsAbove();
        waiveNothingLeft();
        waiveNoDebt();
        waiveOnlyWhatIsLeft();
        owesPersons();
        owesBelowZero();
        owesWithoutADay();
        owesBehindTheLastDay();
        owesOfAllDebts();
        interestOfWholeDays();
        interestBeforeTheDebt();
        interestCutOnce();
        interestOfWhatIsLeftNow();
        interestByTheLoansRule();
        interestAboveInts();
        planParts();
        planPart();
        planPersons();
        planOneMore();
        planOfWhatIsLeft();
        thresholdCents();
        blockedAsMuch();
        blockedWithoutInterest();
        blockedLessCredit();
        blockedPersons();
        debtsOfNoSuchNumber();
        debtsWhat();
        debtsLeft();
        debtsInterestOnce();
        sharePartsDown();
        sharePartsUp();
        shareUpNotAboveDown();
        shareCut();
        shareOfNoDebt();
        shareOfTheAmount();
        askingChangesNothing();
        due.end();
    }

    private static FineRows told(Stories story) {
        FineRows x = new FineRows();
        story.tell(x);
        return x;
    }

    /** An object with one rule of ten cents a day, up to 1000, without grace, with the interest up / down. */
    private static FineRows withInterest(int up, int down) {
        FineRows x = new FineRows();
        x.rule(10, 1000, 0);
        x.interest(0, up, down);
        return x;
    }

    /** An object in which person 0 lost items 0 on, for the cents and on the days that are told. */
    private static FineRows withLosses(int[] cents, long[] days) {
        FineRows x = withInterest(0, 1);
        for (int item = 0; item < cents.length; item++) {
            lose(x, item, 0, cents[item], days[item]);
        }
        return x;
    }

    private static int lose(FineRows x, int item, int person, int cents, long day) {
        return x.lost(x.loan(item, person, 0, day), cents, day);
    }

    private static void payPersons() {
        due.part("promise 10: \"NONE if there is none such\", PERSONS 0 .. 29");
        FineRows x = new FineRows();
        for (int person : new int[] {0, 29}) {
            due.is("pay(" + person + ", 5)", x.pay(person, 5), 0);
            due.is("owes(" + person + ", -1)", x.owes(person, -1), -5);
        }
        for (int person : NO_PERSONS) {
            refusal.is("pay(" + person + ", 5)", Stories.MIXED, y -> y.pay(person, 5), -1);
        }
    }

    private static void payCents() {
        due.part("promise 10: \"pays cents, 1 .. 10000000\", \"NONE .. for other cents\"");
        FineRows x = new FineRows();
        due.is("pay(0, 1)", x.pay(0, 1), 0);
        due.is("owes(0, -1)", x.owes(0, -1), -1);
        due.is("pay(0, 10000000)", x.pay(0, 10000000), 0);
        due.is("owes(0, -1)", x.owes(0, -1), -10000001);
        for (int cents : new int[] {0, -1, MIN, 10000001, MAX}) {
            refusal.is("pay(0, " + cents + ")", Stories.MIXED, y -> y.pay(0, cents), -1);
            refusal.is("pay(2, " + cents + ") with credit", Stories.MIXED, y -> y.pay(2, cents), -1);
        }
    }

    private static void payWithoutDebts() {
        due.part("promise 10: \"what is over is CREDIT\": there are no debts, or nothing is left of them");
        FineRows x = withLosses(new int[] {100}, new long[] {5});
        due.is("a person without debts", x.pay(1, 30), 0);
        due.is("owes(1, -1)", x.owes(1, -1), -30);
        x.waive(1, 100);
        due.is("nothing is left", x.pay(0, 30), 0);
        due.is("owes(0, -1)", x.owes(0, -1), -30);
        due.is("credit grows", x.pay(0, 5), 0);
        due.is("owes(0, -1)", x.owes(0, -1), -35);
    }

    private static void payLessThanIsLeft() {
        due.part("promise 10: less is paid than is left");
        FineRows x = withLosses(new int[] {100}, new long[] {5});
        due.is("pay(0, 1)", x.pay(0, 1), 1);
        due.is("debt(1, 2)", x.debt(1, 2), 99);
        due.is("pay(0, 98)", x.pay(0, 98), 1);
        due.is("debt(1, 2)", x.debt(1, 2), 1);
        due.is("owes(0, -1)", x.owes(0, -1), 1);
    }

    private static void payAllThatIsLeft() {
        due.part("promise 10: as much is paid as is left, or a cent more");
        FineRows x = withLosses(new int[] {100}, new long[] {5});
        due.is("pay(0, 100)", x.pay(0, 100), 1);
        due.is("debt(1, 2)", x.debt(1, 2), 0);
        due.is("owes(0, -1)", x.owes(0, -1), 0);
        FineRows y = withLosses(new int[] {100}, new long[] {5});
        due.is("pay(0, 101)", y.pay(0, 101), 1);
        due.is("debt(1, 2)", y.debt(1, 2), 0);
        due.is("owes(0, -1)", y.owes(0, -1), -1);
    }

    private static void payWithCredit() {
        due.part("promise 10: \"together with its CREDIT\"");
        FineRows x = withInterest(0, 1);
        x.pay(0, 50);
        lose(x, 0, 0, 100, 5);
        due.is("credit waits for a payment", x.debt(1, 2), 100);
        due.is("pay(0, 1)", x.pay(0, 1), 1);
        due.is("debt(1, 2)", x.debt(1, 2), 49);
        due.is("no credit is left", x.owes(0, -1), 49);
        due.is("pay(0, 49)", x.pay(0, 49), 1);
        due.is("owes(0, -1)", x.owes(0, -1), 0);
        x.pay(0, 10);
        lose(x, 1, 0, 5, 5);
        due.is("more credit than is left", x.pay(0, 1), 1);
        due.is("the credit that is left", x.owes(0, -1), -6);
        FineRows y = told(Stories.MIXED);
        due.is("pay(1, 1)", y.pay(1, 1), 1);
        due.is("another one's credit does not help", y.debt(3, 2), 499);
        due.is("and stays", y.owes(2, -1), 0);
    }

    private static void payInOrderByDay() {
        due.part("terms: \"Debts are in order by day\"");
        FineRows x = withLosses(new int[] {10, 10, 10, 10}, new long[] {1000000, 7, 0, 6});
        int[] order = {3, 4, 2, 1};
        for (int debt : order) {
            due.is("pay(0, 10)", x.pay(0, 10), 1);
            due.is("what is left of debt " + debt, x.debt(debt, 2), 0);
        }
        due.is("owes(0, -1)", x.owes(0, -1), 0);
    }

    private static void payInOrderByNumber() {
        due.part("terms: \"then by number\"");
        FineRows x = withLosses(new int[] {10, 10, 10, 10}, new long[] {7, 7, 6, 7});
        x.back(x.loan(9, 0, 0, 6), 7);
        int[] order = {3, 1, 2, 4, 5};
        for (int debt : order) {
            due.is("pay(0, 10)", x.pay(0, 10), 1);
            due.is("what is left of debt " + debt, x.debt(debt, 2), 0);
        }
        due.is("owes(0, -1)", x.owes(0, -1), 0);
    }

    private static void payOnlyItsOwnDebts() {
        due.part("promise 10: to what is left of \"its debts\"");
        FineRows x = withInterest(0, 1);
        lose(x, 0, 1, 10, 0);
        lose(x, 1, 0, 10, 1);
        lose(x, 2, 29, 10, 0);
        due.is("pay(0, 20)", x.pay(0, 20), 1);
        due.is("debt(1, 2)", x.debt(1, 2), 10);
        due.is("debt(2, 2)", x.debt(2, 2), 0);
        due.is("debt(3, 2)", x.debt(3, 2), 10);
    }

    private static void payCountsWhatGotSomething() {
        due.part("promise 10: \"how many debts got something\"");
        int[] cents = {10, 10, 10};
        long[] days = {1, 2, 3};
        int[] paid = {1, 10, 11, 20, 21, 30, 31};
        int[] got = {1, 1, 2, 2, 3, 3, 3};
        for (int n = 0; n < paid.length; n++) {
            due.is("pay(0, " + paid[n] + ")", withLosses(cents, days).pay(0, paid[n]), got[n]);
        }
        FineRows x = withLosses(cents, days);
        x.waive(2, 10);
        due.is("one in the midst is waived", x.pay(0, 11), 2);
        due.is("debt(3, 2)", x.debt(3, 2), 9);
    }

    private static void payTwoHundredDebts() {
        due.part("promise 10: with 200 debts");
        FineRows x = told(Stories.DEBTS_200);
        due.is("pay(1, 98)", x.pay(1, 98), 98);
        due.is("owes(1, -1)", x.owes(1, -1), 0);
        due.is("pay(0, 125)", x.pay(0, 125), 2);
        due.is("debt(199, 2)", x.debt(199, 2), 0);
        due.is("debt(200, 2)", x.debt(200, 2), 1);
        due.is("pay(0, 2)", x.pay(0, 2), 1);
        due.is("debt(200, 2)", x.debt(200, 2), 0);
        due.is("owes(0, -1)", x.owes(0, -1), -1);
    }

    private static void waiveRights() {
        due.part("promise 11: \"a right, 0 .. 100000 cents\", \"NONE if there is no such .. right\"");
        FineRows x = withLosses(new int[] {100000, 1}, new long[] {5, 5});
        due.is("waive(1, 100000)", x.waive(1, 100000), 100000);
        due.is("debt(1, 2)", x.debt(1, 2), 0);
        due.is("waive(2, 0)", x.waive(2, 0), 0);
        due.is("debt(2, 2)", x.debt(2, 2), 1);
        for (int right : new int[] {-1, MIN, 100001, MAX}) {
            refusal.is("waive(6, " + right + ")", Stories.MIXED, y -> y.waive(6, right), -1);
            refusal.is("waive(1, " + right + "), nothing left", Stories.MIXED, y -> y.waive(1, right), -1);
        }
    }

    private static void waiveWhatIsNotAbove() {
        due.part("promise 11: \"what is LEFT of a debt, if that is not above the right\"");
        due.is("as much", told(Stories.MIXED).waive(6, 77), 77);
        due.is("below", told(Stories.MIXED).waive(6, 78), 77);
        FineRows x = told(Stories.MIXED);
        due.is("paid in part, as much", x.waive(2, 240), 240);
        due.is("nothing is left", x.debt(2, 2), 0);
        due.is("the amount stays", x.debt(2, 1), 300);
        due.is("owes(0, -1)", x.owes(0, -1), 0);
        due.is("no credit comes of it", x.pay(0, 1), 0);
        due.is("owes(0, -1)", x.owes(0, -1), -1);
        due.is("the item stays lost", x.found(1, 10), 60);
    }

    private static void waiveWhatIsAbove() {
        due.part("promise 11: \"0 if .. it is above\"");
        refusal.is("waive(6, 76)", Stories.MIXED, x -> x.waive(6, 76), 0);
        refusal.is("waive(6, 0)", Stories.MIXED, x -> x.waive(6, 0), 0);
        refusal.is("waive(2, 239), paid in part", Stories.MIXED, x -> x.waive(2, 239), 0);
        FineRows x = withLosses(new int[] {100001, 10000000}, new long[] {5, 5});
        due.is("above the highest right", x.waive(1, 100000), 0);
        due.is("far above", x.waive(2, 100000), 0);
        due.is("debt(1, 2)", x.debt(1, 2), 100001);
        x.pay(0, 1);
        due.is("a cent paid", x.waive(1, 100000), 100000);
    }

    private static void waiveNothingLeft() {
        due.part("promise 11: \"0 if nothing is LEFT\"");
        refusal.is("waived before", Stories.MIXED, x -> x.waive(1, 100000), 0);
        refusal.is("waived before, by no cents", Stories.MIXED, x -> x.waive(1, 0), 0);
        refusal.is("a found loss", Stories.MIXED, x -> x.waive(4, 100000), 0);
        refusal.is("a paid debt", Stories.DEBTS_200, x -> x.waive(197, 100000), 0);
    }

    private static void waiveNoDebt() {
        due.part("promise 11: \"NONE if there is no such debt\"");
        for (int debt : NO_DEBTS) {
            refusal.is("waive(" + debt + ", 100000)", Stories.MIXED, x -> x.waive(debt, 100000), -1);
        }
        refusal.is("waive(201, 5)", Stories.DEBTS_200, x -> x.waive(201, 5), -1);
        refusal.is("waive(0, 5)", Stories.DEBTS_200, x -> x.waive(0, 5), -1);
        due.is("waive(200, 5)", told(Stories.DEBTS_200).waive(200, 5), 1);
        FineRows x = withLosses(new int[] {5}, new long[] {5});
        due.is("waive(1, 5), the first", x.waive(1, 5), 5);
    }

    private static void waiveOnlyWhatIsLeft() {
        due.part("terms: \"What is LEFT of it: the amount, less what was paid and waived\"");
        FineRows x = withLosses(new int[] {300, 300}, new long[] {5, 6});
        x.pay(0, 100);
        due.is("paid in part", x.debt(1, 2), 200);
        due.is("waive(1, 200)", x.waive(1, 200), 200);
        due.is("waived", x.debt(1, 2), 0);
        due.is("a waived debt gets nothing", x.pay(0, 100), 1);
        due.is("the next one does", x.debt(2, 2), 200);
        due.is("owes(0, -1)", x.owes(0, -1), 200);
    }

    private static void owesPersons() {
        due.part("promise 12: \"NONE less 10 to the 15th if there is no such person\", PERSONS 0 .. 29");
        FineRows x = told(Stories.MIXED);
        due.is("owes(0, -1)", x.owes(0, -1), 240);
        due.is("owes(29, -1)", x.owes(29, -1), 77);
        for (int person : NO_PERSONS) {
            for (long day : new long[] {-1, 0, 1000000, 1000001}) {
                refusal.is("owes(" + person + ", " + day + ")", Stories.MIXED, y -> y.owes(person, day), NO_PERSON);
            }
        }
    }

    private static void owesBelowZero() {
        due.part("promise 12: \"less CREDIT (below 0, if that is more)\"");
        FineRows x = withInterest(0, 1);
        x.pay(0, 100);
        due.is("all credit", x.owes(0, -1), -100);
        lose(x, 0, 0, 99, 5);
        due.is("a cent below 0", x.owes(0, -1), -1);
        lose(x, 1, 0, 1, 5);
        due.is("as much as the credit", x.owes(0, -1), 0);
        lose(x, 2, 0, 1, 5);
        due.is("a cent above 0", x.owes(0, -1), 1);
        FineRows y = withInterest(1, 1);
        y.pay(0, 100);
        lose(y, 0, 0, 50, 0);
        due.is("below 0 with interest", y.owes(0, 30), 0);
        due.is("interest is of what is left, not less credit", y.owes(0, 60), 50);
    }

    private static void owesWithoutADay() {
        due.part("promise 12: \"with the INTEREST .. if that is told (not below 0 ..)\"");
        FineRows x = withInterest(1, 1);
        lose(x, 0, 0, 100, 0);
        due.is("owes(0, 30)", x.owes(0, 30), 200);
        due.is("owes(0, 0), told", x.owes(0, 0), 100);
        for (long day : new long[] {-1, -30, -60, Long.MIN_VALUE, -(1L << 32) + 30}) {
            due.is("owes(0, " + day + "), not told", x.owes(0, day), 100);
        }
    }

    private static void owesBehindTheLastDay() {
        due.part("promise 12: \"a day behind the last one counts as that\"");
        FineRows x = withInterest(1, 1);
        lose(x, 0, 0, 100, 999970);
        lose(x, 1, 1, 100, 999971);
        lose(x, 2, 2, 100, 1000000);
        due.is("owes(0, 999999)", x.owes(0, 999999), 100);
        for (long day : new long[] {1000000, 1000001, 1000030, 2000000, 1L << 32, Long.MAX_VALUE}) {
            due.is("owes(0, " + day + ")", x.owes(0, day), 200);
            due.is("owes(1, " + day + ")", x.owes(1, day), 100);
            due.is("owes(2, " + day + ")", x.owes(2, day), 100);
        }
    }

    private static void owesOfAllDebts() {
        due.part("promise 12: \"what is LEFT of all debts\", \"the INTEREST of all\"");
        FineRows x = told(Stories.DEBTS_200);
        due.is("owes(0, -1)", x.owes(0, -1), 55 + 70 + 1);
        due.is("owes(0, 40)", x.owes(0, 40), 126 + 5 + 7);
        due.is("owes(1, -1)", x.owes(1, -1), 98);
        due.is("owes(1, 311), each debt cut by itself", x.owes(1, 311), 98 + 98);
        due.is("owes(1, 310)", x.owes(1, 310), 98);
        due.is("owes(2, 311)", x.owes(2, 311), 0);
    }

    private static void interestOfWholeDays() {
        due.part("terms: \"for each 30 days whole since the day on which it came\"");
        FineRows x = withInterest(1, 10);
        lose(x, 0, 0, 100, 7);
        long[] days = {7, 8, 36, 37, 38, 66, 67, 96, 97};
        long[] interest = {0, 0, 0, 10, 10, 10, 20, 20, 30};
        for (int n = 0; n < days.length; n++) {
            due.is("owes(0, " + days[n] + ")", x.owes(0, days[n]), 100 + interest[n]);
        }
    }

    private static void interestBeforeTheDebt() {
        due.part("terms: a day before the debt came has no interest");
        FineRows x = withInterest(1, 1);
        lose(x, 0, 0, 100, 1000000);
        for (long day : new long[] {0, 1, 999969, 999970, 999971, 999999}) {
            due.is("owes(0, " + day + ")", x.owes(0, day), 100);
        }
    }

    private static void interestCutOnce() {
        due.part("terms: \"cut (once for all: LEFT * up * n / down)\"");
        FineRows x = withInterest(1, 3);
        lose(x, 0, 0, 100, 0);
        due.is("one time", x.owes(0, 30), 133);
        due.is("two times", x.owes(0, 60), 166);
        due.is("three times", x.owes(0, 90), 200);
        FineRows y = withInterest(2, 3);
        lose(y, 0, 0, 1, 0);
        due.is("one cent, one time", y.owes(0, 30), 1);
        due.is("one cent, two times", y.owes(0, 60), 2);
        due.is("one cent, three times", y.owes(0, 90), 3);
    }

    private static void interestOfWhatIsLeftNow() {
        due.part("terms: \"what is LEFT now\"");
        FineRows x = withInterest(1, 10);
        lose(x, 0, 0, 100, 0);
        x.pay(0, 1);
        due.is("less a cent", x.owes(0, 30), 99 + 9);
        x.pay(0, 98);
        due.is("all but a cent", x.owes(0, 270), 1);
        due.is("all but a cent, ten times", x.owes(0, 300), 2);
        x.waive(1, 1);
        due.is("nothing", x.owes(0, 1000000), 0);
        due.is("debt(1, 5)", x.debt(1, 5), 0);
    }

    private static void interestByTheLoansRule() {
        due.part("terms: \"INTEREST of a debt at a day, by its loan's rule\"");
        FineRows x = withInterest(1, 10);
        x.rule(10, 1000, 0);
        lose(x, 0, 0, 100, 0);
        x.lost(x.loan(1, 0, 1, 0), 100, 0);
        x.back(x.loan(2, 0, 1, 0), 10);
        due.is("by rule 0", x.debt(1, 5), 10);
        due.is("by rule 1", x.debt(2, 5), 0);
        x.interest(1, 1, 2);
        due.is("by rule 0", x.debt(1, 5), 10);
        due.is("by rule 1", x.debt(2, 5), 50);
        due.is("an overdue debt by rule 1", x.debt(3, 5), 50);
        x.found(1, 10);
        due.is("a debt instead of a loss, by rule 1", x.debt(4, 5), 50);
        x.interest(1, 0, 2);
        due.is("by rule 1 without interest", x.debt(4, 5), 0);
    }

    private static void interestAboveInts() {
        due.part("terms: LEFT * up * n above what an int holds");
        FineRows x = withInterest(1000, 1);
        for (int item = 0; item < 60; item++) {
            lose(x, item, 0, 10000000, 0);
        }
        due.is("debt(1, 5)", x.debt(1, 5), 10000000000L);
        due.is("owes(0, -1)", x.owes(0, -1), 600000000L);
        due.is("owes(0, 1000000)", x.owes(0, 1000000), 600000000L + 60 * 10000000L * 1000 * 33333);
        x.interest(0, 1000, 1000000);
        due.is("divided again", x.owes(0, 1000000), 600000000L + 60 * 10000L * 33333);
    }

    private static void planParts() {
        due.part("promise 13: \"in how many parts, 1 .. 12\"");
        FineRows x = withLosses(new int[] {100, 25}, new long[] {5, 5});
        due.is("plan(0, 1, 0)", x.plan(0, 1, 0), 125);
        due.is("plan(0, 12, 0)", x.plan(0, 12, 0), 11);
        for (int parts : new int[] {0, -1, MIN, 13, MAX}) {
            refusal.is("plan(0, " + parts + ", 0)", Stories.MIXED, y -> y.plan(0, parts, 0), 0);
        }
    }

    private static void planPart() {
        due.part("promise 13: \"part i, from 0 on; 0 if there is no such .. part\"");
        FineRows x = withLosses(new int[] {100}, new long[] {5});
        for (int parts = 1; parts <= 12; parts++) {
            long sum = 0;
            for (int i = 0; i < parts; i++) {
                sum += x.plan(0, parts, i);
            }
            due.is("the sum of " + parts + " parts", sum, 100);
            due.is("the part behind the last of " + parts, x.plan(0, parts, parts), 0);
            due.is("a part below the first of " + parts, x.plan(0, parts, -1), 0);
        }
        for (int i : new int[] {-1, MIN, 12, 13, MAX}) {
            refusal.is("plan(0, 12, " + i + ")", Stories.MIXED, y -> y.plan(0, 12, i), 0);
        }
    }

    private static void planPersons() {
        due.part("promise 13: \"0 if there is no such person\", PERSONS 0 .. 29");
        FineRows x = told(Stories.MIXED);
        due.is("plan(0, 1, 0)", x.plan(0, 1, 0), 240);
        due.is("plan(29, 1, 0)", x.plan(29, 1, 0), 77);
        for (int person : NO_PERSONS) {
            refusal.is("plan(" + person + ", 1, 0)", Stories.MIXED, y -> y.plan(person, 1, 0), 0);
        }
    }

    private static void planOneMore() {
        due.part("promise 13: \"each the whole cut, the first ones one more, as it takes\"");
        int[] cents = {23, 24, 25, 35, 1, 11};
        int[] firstOnes = {11, 0, 1, 11, 1, 11};
        for (int n = 0; n < cents.length; n++) {
            FineRows x = withLosses(new int[] {cents[n]}, new long[] {5});
            for (int i = 0; i < 12; i++) {
                due.is("part " + i + " of " + cents[n], x.plan(0, 12, i), cents[n] / 12 + (i < firstOnes[n] ? 1 : 0));
            }
        }
    }

    private static void planOfWhatIsLeft() {
        due.part("promise 13: \"what is LEFT of all its debts now\"");
        FineRows x = withInterest(1, 1);
        due.is("none yet", x.plan(0, 1, 0), 0);
        lose(x, 0, 0, 100, 5);
        lose(x, 1, 0, 50, 5);
        lose(x, 2, 1, 7, 5);
        due.is("two debts", x.plan(0, 1, 0), 150);
        x.pay(0, 100);
        due.is("one is paid", x.plan(0, 1, 0), 50);
        x.waive(2, 50);
        due.is("the other one is waived", x.plan(0, 1, 0), 0);
        x.pay(0, 30);
        due.is("credit alone", x.plan(0, 1, 0), 0);
        lose(x, 3, 0, 100, 5);
        due.is("credit is not taken off", x.plan(0, 1, 0), 100);
        due.is("with 200 debts", told(Stories.DEBTS_200).plan(1, 12, 0), 9);
        due.is("with 200 debts, the last part", told(Stories.DEBTS_200).plan(1, 12, 11), 8);
    }

    private static void thresholdCents() {
        due.part("promise 14: \"1 .. 1000000 cents: what it was; NONE if it can't be\"");
        FineRows x = told(Stories.MIXED);
        due.is("threshold(1)", x.threshold(1), 400);
        due.is("threshold(1000000)", x.threshold(1000000), 1);
        due.is("threshold(1000000)", x.threshold(1000000), 1000000);
        due.is("threshold(2)", x.threshold(2), 1000000);
        for (int cents : new int[] {0, -1, MIN, 1000001, MAX}) {
            refusal.is("threshold(" + cents + ")", Stories.MIXED, y -> y.threshold(cents), -1);
            refusal.is("threshold(" + cents + ")", Stories.NEW, y -> y.threshold(cents), -1);
        }
    }

    private static void blockedAsMuch() {
        due.part("promise 15: \"it owes .. as much as the threshold\"");
        FineRows x = withLosses(new int[] {77}, new long[] {5});
        int[] thresholds = {1, 76, 77, 78, 1000000};
        boolean[] blocked = {true, true, true, false, false};
        for (int n = 0; n < thresholds.length; n++) {
            x.threshold(thresholds[n]);
            due.is("77 at " + thresholds[n], x.blocked(0), blocked[n]);
        }
        x.threshold(1);
        x.pay(0, 77);
        due.is("nothing is owed at 1", x.blocked(0), false);
        FineRows y = withLosses(new int[] {999999, 1}, new long[] {5, 5});
        y.threshold(1000000);
        due.is("1000000 at 1000000", y.blocked(0), true);
        y.pay(0, 1);
        due.is("999999 at 1000000", y.blocked(0), false);
    }

    private static void blockedWithoutInterest() {
        due.part("promise 15: \"(without INTEREST)\"");
        FineRows x = withInterest(1000, 1);
        lose(x, 0, 0, 999, 0);
        due.is("owes(0, 30)", x.owes(0, 30), 999999);
        due.is("999 at 1000", x.blocked(0), false);
    }

    private static void blockedLessCredit() {
        due.part("promise 15: what it owes is less credit");
        FineRows x = withInterest(0, 1);
        x.pay(0, 500);
        lose(x, 0, 0, 1499, 0);
        due.is("1499 less 500 at 1000", x.blocked(0), false);
        lose(x, 1, 0, 1, 0);
        due.is("1500 less 500 at 1000", x.blocked(0), true);
        FineRows y = told(Stories.MIXED);
        y.threshold(1);
        due.is("all credit", y.blocked(3), false);
        due.is("as much as the credit", y.blocked(2), false);
    }

    private static void blockedPersons() {
        due.part("promise 15: \"false if there is none such\", PERSONS 0 .. 29");
        FineRows x = withInterest(0, 1);
        lose(x, 0, 0, 1000, 0);
        lose(x, 1, 29, 1000, 0);
        due.is("blocked(0)", x.blocked(0), true);
        due.is("blocked(29)", x.blocked(29), true);
        due.is("blocked(1)", x.blocked(1), false);
        for (int person : NO_PERSONS) {
            due.is("blocked(" + person + ")", x.blocked(person), false);
            refusal.is("blocked(" + person + ")", Stories.MIXED, y -> y.blocked(person) ? 1 : 0, 0);
        }
    }

    private static void debtsOfNoSuchNumber() {
        due.part("promise 16: \"NONE if there is none such\", terms: \"A DEBT, 1 .. 200\"");
        for (int what = 0; what <= 5; what++) {
            int asked = what;
            for (int debt : NO_DEBTS) {
                refusal.is("debt(" + debt + ", " + what + ")", Stories.MIXED, x -> x.debt(debt, asked), -1);
            }
            due.is("debt(201, " + what + ")", told(Stories.DEBTS_200).debt(201, what), -1);
            due.is("debt(0, " + what + ")", told(Stories.DEBTS_200).debt(0, what), -1);
        }
        due.is("debt(1, 1), the first", told(Stories.DEBTS_200).debt(1, 1), 5);
        due.is("debt(200, 1), the last", told(Stories.DEBTS_200).debt(200, 1), 1);
        due.is("debt(6, 1), the last yet", told(Stories.MIXED).debt(6, 1), 77);
    }

    private static void debtsWhat() {
        due.part("promise 16: \"NONE .. for another what\", 0 .. 5");
        FineRows x = withInterest(1, 10);
        lose(x, 0, 29, 300, 8);
        x.pay(29, 100);
        long[] answers = {29, 300, 200, 8, 1, 20};
        for (int what = 0; what <= 5; what++) {
            due.is("debt(1, " + what + ")", x.debt(1, what), answers[what]);
        }
        for (int what : new int[] {-1, MIN, 6, 7, MAX}) {
            refusal.is("debt(2, " + what + ")", Stories.MIXED, y -> y.debt(2, what), -1);
        }
    }

    private static void debtsLeft() {
        due.part("promise 16: 1 \"the amount\" stays, 2 \"what is LEFT\" does not");
        FineRows x = told(Stories.MIXED);
        long[] amounts = {40, 300, 500, 250, 100, 77};
        long[] left = {0, 240, 500, 0, 100, 77};
        for (int debt = 1; debt <= 6; debt++) {
            due.is("debt(" + debt + ", 1)", x.debt(debt, 1), amounts[debt - 1]);
            due.is("debt(" + debt + ", 2)", x.debt(debt, 2), left[debt - 1]);
        }
    }

    private static void debtsInterestOnce() {
        due.part("promise 16: \"INTEREST at the day on which it came and 30 days\"");
        FineRows x = withInterest(2, 3);
        long[] days = {0, 999970, 999971, 1000000};
        for (int item = 0; item < days.length; item++) {
            int debt = lose(x, item, 0, 100, days[item]);
            due.is("of a debt of day " + days[item], x.debt(debt, 5), 66);
        }
        x.pay(0, 99);
        due.is("of one cent", x.debt(1, 5), 0);
    }

    private static void sharePartsDown() {
        due.part("promise 17: down 1 .. 1000");
        FineRows x = withLosses(new int[] {10000000}, new long[] {5});
        due.is("share(1, 1, 1)", x.share(1, 1, 1), 10000000);
        due.is("share(1, 1, 1000)", x.share(1, 1, 1000), 10000);
        for (int down : new int[] {0, -1, MIN, 1001, MAX}) {
            refusal.is("share(2, 1, " + down + ")", Stories.MIXED, y -> y.share(2, 1, down), -1);
        }
    }

    private static void sharePartsUp() {
        due.part("promise 17: up 1 .. 1000");
        FineRows x = withLosses(new int[] {10000000}, new long[] {5});
        due.is("share(1, 1, 1000)", x.share(1, 1, 1000), 10000);
        due.is("share(1, 1000, 1000)", x.share(1, 1000, 1000), 10000000);
        for (int up : new int[] {0, -1, MIN, 1001, MAX}) {
            refusal.is("share(2, " + up + ", 1000)", Stories.MIXED, y -> y.share(2, up, 1000), -1);
        }
        for (int both : new int[] {0, -1, MIN, 1001, MAX}) {
            refusal.is("share(2, both " + both + ")", Stories.MIXED, y -> y.share(2, both, both), -1);
        }
    }

    private static void shareUpNotAboveDown() {
        due.part("promise 17: \"up not above down\"");
        FineRows x = withLosses(new int[] {300}, new long[] {5});
        due.is("share(1, 2, 3)", x.share(1, 2, 3), 200);
        due.is("share(1, 3, 3)", x.share(1, 3, 3), 300);
        refusal.is("share(2, 4, 3)", Stories.MIXED, y -> y.share(2, 4, 3), -1);
        refusal.is("share(2, 2, 1)", Stories.MIXED, y -> y.share(2, 2, 1), -1);
        refusal.is("share(2, 1000, 999)", Stories.MIXED, y -> y.share(2, 1000, 999), -1);
    }

    private static void shareCut() {
        due.part("promise 17: \"amount * up / down, cut\"");
        FineRows x = withLosses(new int[] {1, 100, 9999999}, new long[] {5, 5, 5});
        due.is("share(1, 999, 1000)", x.share(1, 999, 1000), 0);
        due.is("share(1, 1, 2)", x.share(1, 1, 2), 0);
        due.is("share(2, 2, 3)", x.share(2, 2, 3), 66);
        due.is("share(3, 999, 1000), above ints", x.share(3, 999, 1000), 9989999);
    }

    private static void shareOfNoDebt() {
        due.part("promise 17: \"NONE if there is no such debt\"");
        for (int debt : NO_DEBTS) {
            refusal.is("share(" + debt + ", 1, 2)", Stories.MIXED, x -> x.share(debt, 1, 2), -1);
        }
        due.is("share(200, 1, 1)", told(Stories.DEBTS_200).share(200, 1, 1), 1);
        due.is("share(201, 1, 1)", told(Stories.DEBTS_200).share(201, 1, 1), -1);
        due.is("share(1, 1, 1)", told(Stories.DEBTS_200).share(1, 1, 1), 5);
        due.is("share(0, 1, 1)", told(Stories.DEBTS_200).share(0, 1, 1), -1);
    }

    private static void shareOfTheAmount() {
        due.part("promise 17: \"in a debt's amount\", not in what is left");
        FineRows x = told(Stories.MIXED);
        due.is("waived", x.share(1, 1, 2), 20);
        due.is("paid in part", x.share(2, 1, 2), 150);
        due.is("found", x.share(4, 1, 2), 125);
    }

    private static void askingChangesNothing() {
        due.part("promises 12, 13, 15, 16 and 17: to ask changes nothing");
        refusal.is("owes(2, -1)", Stories.MIXED, x -> x.owes(2, -1), 0);
        refusal.is("owes(29, 530)", Stories.MIXED, x -> x.owes(29, 530), 77 + 25);
        refusal.is("plan(0, 7, 1)", Stories.MIXED, x -> x.plan(0, 7, 1), 35);
        refusal.is("blocked(1)", Stories.MIXED, x -> x.blocked(1) ? 1 : 0, 1);
        refusal.is("debt(2, 2)", Stories.MIXED, x -> x.debt(2, 2), 240);
        refusal.is("debt(2, 5)", Stories.MIXED, x -> x.debt(2, 5), 80);
        refusal.is("share(2, 1, 3)", Stories.MIXED, x -> x.share(2, 1, 3), 100);
    }
}
