/** Boundary cases, a test a sentence: promises 5 to 9, and what the terms say of loans and of open days. */
public final class FineRowsBoundsLoans {
    private static final int MIN = Integer.MIN_VALUE;
    private static final int MAX = Integer.MAX_VALUE;
    /** The last two would be days, were they cut to ints. */
    private static final long[] NO_DAYS = {
        -1, Long.MIN_VALUE, 1000001, Long.MAX_VALUE, 1L << 32, -(1L << 32) + 60};
    /** In MIXED: below the first loan, behind the ninth and last one, and far off. */
    private static final int[] NO_LOANS = {0, -1, MIN, 10, 120, 121, MAX};
    private static final Due due = new Due();
    private static final Refusal refusal = new Refusal(due);

    public static void main(String[] args) {
        loanItems();
        loanPersons();
        loanRules();
        loanDays();
        loanOfWhatIsLent();
        loanOfWhatIsLost();
        loanOfWhatCameBack();
        loansAsTheyCome();
        loansFull();
        overdueOfNoLoan();
        overdueOfWhatCameBack();
        overdueOfWhatIsLost();
        overdueDays();
        openDaysBehindTheFirst();
        openDaysWithTheLast();
        openDaysBackwards();
        grace();
        graceByOpenDays();
        graceCountsToo();
        theCapAtMost();
        overdueAboveInts();
        overdueChangesNothing();
        backOfNoLoan();
        backOfWhatCameBack();
        backOfWhatIsLost();
        backDays();
        backWithoutADebt();
        backWithADebt();
        backFull();
        lostCents();
        lostOfNoLoan();
        lostOfWhatCameBack();
        lostOfWhatIsLost();
        lostDays();
        lostFull();
        foundItems();
        foundOfWhatIsNotLost();
        foundDays();
        foundCountsNoMore();
        foundCreditIsWhatWasPaid();
        foundCreditIsNotWhatWasWaived();
        foundByTheDueDay();
        foundWithoutADebt();
        foundFull();
        due.end();
    }

    private static FineRows told(Stories story) {
        FineRows x = new FineRows();
        story.tell(x);
        return x;
    }

    /** An object with one rule of ten cents a day, up to 1000, without grace. */
    private static FineRows withRule() {
        FineRows x = new FineRows();
        x.rule(10, 1000, 0);
        return x;
    }

    private static void loanItems() {
        due.part("promise 5: \"0 if there is none such item\", ITEMS 0 .. 59");
        FineRows x = withRule();
        due.is("loan(0, 0, 0, 0)", x.loan(0, 0, 0, 0), 1);
        due.is("loan(59, 0, 0, 0)", x.loan(59, 0, 0, 0), 2);
        for (int item = 1; item < 59; item++) {
            due.is("loan(" + item + ", 0, 0, 0)", x.loan(item, 0, 0, 0), item + 2);
        }
        for (int item : new int[] {-1, MIN, 60, MAX}) {
            refusal.is("loan(" + item + ", 0, 0, 0)", Stories.MIXED, y -> y.loan(item, 0, 0, 0), 0);
        }
    }

    private static void loanPersons() {
        due.part("promise 5: \"0 if there is none such .. person\", PERSONS 0 .. 29");
        FineRows x = withRule();
        for (int person : new int[] {0, 29}) {
            int debt = x.lost(x.loan(person, person, 0, 0), 1, 0);
            due.is("the debt's person", x.debt(debt, 0), person);
        }
        for (int person : new int[] {-1, MIN, 30, MAX}) {
            refusal.is("loan(7, " + person + ", 0, 0)", Stories.MIXED, y -> y.loan(7, person, 0, 0), 0);
        }
    }

    private static void loanRules() {
        due.part("promise 5: \"0 if there is none such .. rule\", RULES 0 .. 9");
        FineRows x = told(Stories.MIXED);
        due.is("loan(7, 0, 0, 0)", x.loan(7, 0, 0, 0), 10);
        due.is("loan(8, 0, 2, 0), the last rule", x.loan(8, 0, 2, 0), 11);
        due.is("loan(7, 0, 9, 0) of ten rules", told(Stories.TEN_RULES).loan(7, 0, 9, 0), 10);
        for (int rule : new int[] {-1, MIN, 3, 9, 10, MAX}) {
            refusal.is("loan(7, 0, " + rule + ", 0)", Stories.MIXED, y -> y.loan(7, 0, rule, 0), 0);
        }
        refusal.is("loan(7, 0, 10, 0)", Stories.TEN_RULES, y -> y.loan(7, 0, 10, 0), 0);
        refusal.is("loan(7, 0, -1, 0)", Stories.TEN_RULES, y -> y.loan(7, 0, -1, 0), 0);
    }

    private static void loanDays() {
        due.part("promise 5: \"0 if there is none such .. day\", DAYS 0 .. 1000000");
        FineRows x = withRule();
        due.is("loan(0, 0, 0, 0)", x.loan(0, 0, 0, 0), 1);
        due.is("overdue(1, 1)", x.overdue(1, 1), 10);
        due.is("loan(1, 0, 0, 999999)", x.loan(1, 0, 0, 999999), 2);
        due.is("overdue(2, 1000000)", x.overdue(2, 1000000), 10);
        due.is("loan(2, 0, 0, 1000000)", x.loan(2, 0, 0, 1000000), 3);
        due.is("overdue(3, 1000000)", x.overdue(3, 1000000), 0);
        for (long day : NO_DAYS) {
            refusal.is("loan(7, 0, 0, " + day + ")", Stories.MIXED, y -> y.loan(7, 0, 0, day), 0);
        }
    }

    private static void loanOfWhatIsLent() {
        due.part("promise 5: \"0 if .. it is\" lent");
        refusal.is("to the same person", Stories.MIXED, x -> x.loan(2, 1, 1, 0), 0);
        refusal.is("to another person", Stories.MIXED, x -> x.loan(2, 5, 0, 9), 0);
        refusal.is("lent a second time", Stories.MIXED, x -> x.loan(0, 0, 0, 10), 0);
    }

    private static void loanOfWhatIsLost() {
        due.part("promise 5: \"0 if .. it is\" lost");
        refusal.is("loan(1, 0, 0, 10)", Stories.MIXED, x -> x.loan(1, 0, 0, 10), 0);
        refusal.is("loan(59, 4, 1, 10)", Stories.MIXED, x -> x.loan(59, 4, 1, 10), 0);
        FineRows x = withRule();
        x.loan(0, 0, 0, 0);
        x.lost(1, 5, 0);
        x.pay(0, 5);
        due.is("a loss that is paid is still lost", x.loan(0, 0, 0, 0), 0);
        x.loan(1, 0, 0, 0);
        x.lost(2, 5, 0);
        x.waive(2, 5);
        due.is("a loss that is waived is still lost", x.loan(1, 0, 0, 0), 0);
    }

    private static void loanOfWhatCameBack() {
        due.part("promise 5: \"an item that is not lent or lost\"");
        FineRows x = told(Stories.MIXED);
        due.is("never lent", x.loan(7, 0, 0, 0), 10);
        due.is("come back", x.loan(5, 0, 0, 0), 11);
        due.is("found", x.loan(4, 0, 0, 0), 12);
        due.is("lent a second time", x.back(6, 0), 0);
        due.is("and come back", x.loan(0, 0, 0, 0), 13);
    }

    private static void loansAsTheyCome() {
        due.part("terms: \"A LOAN, 1 .. 120\"");
        FineRows x = withRule();
        for (int number = 1; number <= 120; number++) {
            due.is("a loan that can't be", x.loan(60, 0, 0, 0), 0);
            due.is("a loan more", x.loan(0, 0, 0, number), number);
            due.is("its overdue", x.overdue(number, number + 1), 10);
            due.is("it comes back", x.back(number, 0), 0);
        }
    }

    private static void loansFull() {
        due.part("promise 5: \"0 if .. there were 120\"");
        FineRows x = told(Stories.LOANS_120);
        due.is("the 120th is lent", x.overdue(120, 6), 10);
        due.is("loan(7, 0, 0, 0)", x.loan(7, 0, 0, 0), 0);
        due.is("there is no 121st", x.overdue(121, 6), -1);
        due.is("the 120th comes back", x.back(120, 5), 0);
        due.is("there were 120 all the same", x.loan(50, 0, 0, 0), 0);
        refusal.is("a 121st loan", Stories.LOANS_120, y -> y.loan(7, 0, 0, 0), 0);
        refusal.is("a 121st loan of a lent item", Stories.LOANS_120, y -> y.loan(50, 0, 0, 0), 0);
    }

    private static void overdueOfNoLoan() {
        due.part("promise 6: \"NONE if there is none such\"");
        for (int loan : NO_LOANS) {
            refusal.is("overdue(" + loan + ", 60)", Stories.MIXED, x -> x.overdue(loan, 60), -1);
        }
        due.is("overdue(121, 60)", told(Stories.LOANS_120).overdue(121, 60), -1);
        due.is("overdue(0, 60)", told(Stories.LOANS_120).overdue(0, 60), -1);
        due.is("overdue(120, 60)", told(Stories.LOANS_120).overdue(120, 60), 530);
        FineRows x = withRule();
        x.loan(0, 0, 0, 0);
        due.is("overdue(1, 1), the first", x.overdue(1, 1), 10);
        due.is("overdue(2, 1)", x.overdue(2, 1), -1);
    }

    private static void overdueOfWhatCameBack() {
        due.part("promise 6: \"NONE if .. it has come back\"");
        refusal.is("late", Stories.MIXED, x -> x.overdue(1, 60), -1);
        refusal.is("in time", Stories.MIXED, x -> x.overdue(7, 60), -1);
        refusal.is("found", Stories.MIXED, x -> x.overdue(5, 110), -1);
    }

    private static void overdueOfWhatIsLost() {
        due.part("promise 6: \"NONE if .. is lost\"");
        refusal.is("overdue(2, 60)", Stories.MIXED, x -> x.overdue(2, 60), -1);
        refusal.is("before the day of the loss", Stories.MIXED, x -> x.overdue(4, 0), -1);
    }

    private static void overdueDays() {
        due.part("promise 6: \"NONE .. for no day\", DAYS 0 .. 1000000");
        FineRows x = told(Stories.MIXED);
        due.is("overdue(3, 0)", x.overdue(3, 0), 0);
        due.is("overdue(3, 1000000)", x.overdue(3, 1000000), 1000000 - 3);
        for (long day : NO_DAYS) {
            refusal.is("overdue(3, " + day + ")", Stories.MIXED, y -> y.overdue(3, day), -1);
        }
    }

    private static void openDaysBehindTheFirst() {
        due.part("terms: \"OPEN DAYS .. those behind the first\"");
        FineRows x = withRule();
        x.loan(0, 0, 0, 50);
        due.is("the first itself", x.overdue(1, 50), 0);
        due.is("one behind", x.overdue(1, 51), 10);
        x.closed(49);
        x.closed(50);
        due.is("with the first one closed", x.overdue(1, 51), 10);
        x.closed(51);
        due.is("with the one behind closed", x.overdue(1, 51), 0);
        due.is("two behind", x.overdue(1, 52), 10);
    }

    private static void openDaysWithTheLast() {
        due.part("terms: \"up to and with the other one, that are not CLOSED\"");
        FineRows x = withRule();
        x.loan(0, 0, 0, 50);
        due.is("all open", x.overdue(1, 55), 50);
        x.closed(56);
        due.is("the one behind closed", x.overdue(1, 55), 50);
        due.is("the last itself closed", x.overdue(1, 56), 50);
        due.is("open again", x.overdue(1, 57), 60);
        x.closed(55);
        due.is("two closed", x.overdue(1, 56), 40);
        due.is("up to one before them", x.overdue(1, 54), 40);
        due.is("with both of them", x.overdue(1, 57), 50);
    }

    private static void openDaysBackwards() {
        due.part("terms: open days to a day before the due day");
        FineRows x = withRule();
        x.loan(0, 0, 0, 50);
        x.loan(1, 0, 0, 1000000);
        x.closed(49);
        x.closed(48);
        due.is("the day before", x.overdue(1, 49), 0);
        due.is("days before", x.overdue(1, 40), 0);
        due.is("the first day", x.overdue(1, 0), 0);
        due.is("from the last day to the first one", x.overdue(2, 0), 0);
    }

    private static void grace() {
        due.part("terms: \"0 if n is not above GRACE\"");
        for (int grace : new int[] {0, 1, 2, 365}) {
            FineRows x = new FineRows();
            x.rule(10, 10000000, grace);
            x.loan(0, 0, 0, 100);
            for (int n = 0; n < grace; n++) {
                due.is("day " + n + " of grace " + grace, x.overdue(1, 100 + n), 0);
            }
            due.is("the last day of grace " + grace, x.overdue(1, 100 + grace), 0);
            due.is("behind grace " + grace, x.overdue(1, 101 + grace), 10 * (grace + 1));
        }
    }

    private static void graceByOpenDays() {
        due.part("terms: grace is held against OPEN DAYS");
        FineRows x = new FineRows();
        x.rule(10, 10000000, 2);
        x.loan(0, 0, 0, 100);
        x.closed(101);
        due.is("two open days of three", x.overdue(1, 103), 0);
        due.is("three open days of four", x.overdue(1, 104), 30);
    }

    private static void graceCountsToo() {
        due.part("terms: \"n * CENTS (GRACE counts, too)\"");
        FineRows x = new FineRows();
        x.rule(7, 10000000, 10);
        x.loan(0, 0, 0, 0);
        due.is("the day behind grace", x.overdue(1, 11), 77);
        due.is("one day more", x.overdue(1, 12), 84);
    }

    private static void theCapAtMost() {
        due.part("terms: \"the CAP at most\"");
        FineRows x = new FineRows();
        x.rule(10, 30, 0);
        x.rule(10, 35, 0);
        x.rule(10, 5, 3);
        x.rule(10, 0, 0);
        for (int item = 0; item < 4; item++) {
            x.loan(item, 0, item, 0);
        }
        due.is("below the cap", x.overdue(1, 2), 20);
        due.is("the cap itself", x.overdue(1, 3), 30);
        due.is("above the cap", x.overdue(1, 4), 30);
        due.is("the last whole day below a cap between", x.overdue(2, 3), 30);
        due.is("a cap between", x.overdue(2, 4), 35);
        due.is("a cap below a day's cents, in grace", x.overdue(3, 3), 0);
        due.is("a cap below a day's cents", x.overdue(3, 4), 5);
        due.is("a cap of 0", x.overdue(4, 1000000), 0);
    }

    private static void overdueAboveInts() {
        due.part("terms: n * CENTS above what an int holds");
        FineRows x = new FineRows();
        x.rule(100000, 10000000, 0);
        x.loan(0, 0, 0, 0);
        for (long day : new long[] {100, 21474, 21475, 42949, 42950, 50000, 1000000}) {
            due.is("overdue(1, " + day + ")", x.overdue(1, day), 10000000);
        }
    }

    private static void overdueChangesNothing() {
        due.part("promise 6: to ask changes nothing");
        refusal.is("overdue(3, 1000000)", Stories.MIXED, x -> x.overdue(3, 1000000), 999997);
        refusal.is("overdue(8, 0)", Stories.MIXED, x -> x.overdue(8, 0), 0);
    }

    private static void backOfNoLoan() {
        due.part("promise 7: \"NONE if there is none such\"");
        for (int loan : NO_LOANS) {
            refusal.is("back(" + loan + ", 60)", Stories.MIXED, x -> x.back(loan, 60), -1);
        }
        refusal.is("back(121, 60)", Stories.LOANS_120, x -> x.back(121, 60), -1);
        due.is("back(120, 60)", told(Stories.LOANS_120).back(120, 60), 7);
        FineRows x = withRule();
        x.loan(0, 0, 0, 0);
        due.is("back(1, 1), the first", x.back(1, 1), 1);
    }

    private static void backOfWhatCameBack() {
        due.part("promise 7: \"NONE if .. it has come back\"");
        refusal.is("late before", Stories.MIXED, x -> x.back(1, 60), -1);
        refusal.is("in time before", Stories.MIXED, x -> x.back(7, 60), -1);
        refusal.is("found before", Stories.MIXED, x -> x.back(5, 60), -1);
        due.is("the item's second loan comes back", told(Stories.MIXED).back(6, 60), 7);
    }

    private static void backOfWhatIsLost() {
        due.part("promise 7: \"NONE if .. is lost\"");
        refusal.is("back(2, 60)", Stories.MIXED, x -> x.back(2, 60), -1);
        refusal.is("back(4, 30)", Stories.MIXED, x -> x.back(4, 30), -1);
    }

    private static void backDays() {
        due.part("promise 7: \"NONE if .. no such day\", DAYS 0 .. 1000000");
        due.is("back(3, 0)", told(Stories.MIXED).back(3, 0), 0);
        FineRows x = told(Stories.MIXED);
        due.is("back(3, 1000000)", x.back(3, 1000000), 7);
        due.is("its day", x.debt(7, 3), 1000000);
        due.is("its amount", x.debt(7, 1), 999997);
        for (long day : NO_DAYS) {
            refusal.is("back(3, " + day + ")", Stories.MIXED, y -> y.back(3, day), -1);
        }
    }

    private static void backWithoutADebt() {
        due.part("promise 7: \"0 if there is none\", terms: \"if above 0\"");
        FineRows x = new FineRows();
        x.rule(10, 1000, 2);
        x.rule(0, 1000, 0);
        x.rule(10, 0, 0);
        for (int item = 0; item < 5; item++) {
            x.loan(item, 0, item < 3 ? 0 : item - 2, 10);
        }
        due.is("before the due day", x.back(1, 0), 0);
        due.is("on the due day", x.back(2, 10), 0);
        due.is("on the last day of grace", x.back(3, 12), 0);
        due.is("late for 0 cents a day", x.back(4, 20), 0);
        due.is("late with a cap of 0", x.back(5, 20), 0);
        due.is("no debt was made", x.debt(1, 0), -1);
        due.is("owes(0, -1)", x.owes(0, -1), 0);
        for (int loan = 1; loan <= 5; loan++) {
            due.is("it has come back", x.overdue(loan, 20), -1);
            due.is("its item can be lent", x.loan(loan - 1, 0, 0, 10), 5 + loan);
        }
    }

    private static void backWithADebt() {
        due.part("promise 7: \"the number of its overdue debt\"");
        FineRows x = new FineRows();
        x.rule(1, 1, 2);
        x.loan(0, 29, 0, 10);
        due.is("the first day behind grace, one cent", x.back(1, 13), 1);
        due.is("its person", x.debt(1, 0), 29);
        due.is("its amount", x.debt(1, 1), 1);
        due.is("its left", x.debt(1, 2), 1);
        due.is("its day", x.debt(1, 3), 13);
        due.is("its sort", x.debt(1, 4), 0);
    }

    private static void backFull() {
        due.part("promise 7: \"NONE if .. a debt would be the 201st\"");
        refusal.is("late", Stories.DEBTS_200, x -> x.back(101, 11), -1);
        FineRows x = told(Stories.DEBTS_200);
        due.is("the 200th was taken", x.debt(200, 1), 1);
        due.is("the 200th has come back", x.overdue(104, 11), -1);
        due.is("in time, as no debt would be", x.back(101, 10), 0);
        due.is("it has come back", x.overdue(101, 11), -1);
        due.is("its item can be lent", x.loan(2, 0, 0, 10), 105);
        refusal.is("again", Stories.DEBTS_200, y -> y.back(104, 10), -1);
    }

    private static void lostCents() {
        due.part("promise 8: \"cents, 1 .. 10000000\"");
        FineRows x = told(Stories.MIXED);
        due.is("lost(3, 1, 0)", x.lost(3, 1, 0), 7);
        due.is("its amount", x.debt(7, 1), 1);
        due.is("lost(6, 10000000, 0)", x.lost(6, 10000000, 0), 8);
        due.is("its amount", x.debt(8, 1), 10000000);
        due.is("its left", x.debt(8, 2), 10000000);
        for (int cents : new int[] {0, -1, MIN, 10000001, MAX}) {
            refusal.is("lost(3, " + cents + ", 60)", Stories.MIXED, y -> y.lost(3, cents, 60), -1);
        }
    }

    private static void lostOfNoLoan() {
        due.part("promise 8: \"NONE as in back\": there is none such");
        for (int loan : NO_LOANS) {
            refusal.is("lost(" + loan + ", 5, 60)", Stories.MIXED, x -> x.lost(loan, 5, 60), -1);
        }
        refusal.is("lost(121, 5, 60)", Stories.LOANS_120, x -> x.lost(121, 5, 60), -1);
        due.is("lost(120, 5, 60)", told(Stories.LOANS_120).lost(120, 5, 60), 7);
        FineRows x = withRule();
        x.loan(0, 0, 0, 0);
        due.is("lost(1, 5, 0), the first", x.lost(1, 5, 0), 1);
    }

    private static void lostOfWhatCameBack() {
        due.part("promise 8: \"NONE as in back\": it has come back");
        refusal.is("late", Stories.MIXED, x -> x.lost(1, 5, 60), -1);
        refusal.is("in time", Stories.MIXED, x -> x.lost(7, 5, 60), -1);
        refusal.is("found", Stories.MIXED, x -> x.lost(5, 5, 60), -1);
    }

    private static void lostOfWhatIsLost() {
        due.part("promise 8: \"NONE as in back\": is lost");
        refusal.is("lost(2, 5, 60)", Stories.MIXED, x -> x.lost(2, 5, 60), -1);
        refusal.is("lost(9, 77, 500), as before", Stories.MIXED, x -> x.lost(9, 77, 500), -1);
    }

    private static void lostDays() {
        due.part("promise 8: \"NONE as in back\": no such day, DAYS 0 .. 1000000");
        FineRows x = told(Stories.MIXED);
        due.is("lost(3, 5, 0)", x.lost(3, 5, 0), 7);
        due.is("its day", x.debt(7, 3), 0);
        due.is("lost(6, 5, 1000000)", x.lost(6, 5, 1000000), 8);
        due.is("its day", x.debt(8, 3), 1000000);
        due.is("its sort", x.debt(8, 4), 1);
        due.is("no overdue debt beside it", x.debt(9, 0), -1);
        for (long day : NO_DAYS) {
            refusal.is("lost(3, 5, " + day + ")", Stories.MIXED, y -> y.lost(3, 5, day), -1);
        }
    }

    private static void lostFull() {
        due.part("promise 8: \"NONE as in back\": a debt would be the 201st");
        refusal.is("late", Stories.DEBTS_200, x -> x.lost(101, 5, 11), -1);
        refusal.is("in time", Stories.DEBTS_200, x -> x.lost(102, 5, 10), -1);
        FineRows x = new FineRows();
        Stories.DEBTS_200.tell(x);
        due.is("the 199th was a loss", x.debt(199, 4), 1);
        due.is("a found loss stays a debt", x.found(0, 10), 50);
        due.is("so there is no room", x.lost(101, 5, 10), -1);
        due.is("the 200th as a loss", lossAsTheLastDebt(), 200);
    }

    /** The number of a loss that comes behind 199 debts. */
    private static int lossAsTheLastDebt() {
        FineRows x = new FineRows();
        x.rule(1, 1, 0);
        for (int number = 1; number <= 99; number++) {
            x.loan(0, 0, 0, 0);
            x.lost(number, 1, 0);
            x.found(0, 1);
        }
        x.back(x.loan(1, 0, 0, 0), 1);
        return x.lost(x.loan(0, 0, 0, 0), 1, 0);
    }

    private static void foundItems() {
        due.part("promise 9: an item that can't be, ITEMS 0 .. 59");
        for (int item : new int[] {-1, MIN, 60, MAX}) {
            refusal.is("found(" + item + ", 60)", Stories.MIXED, x -> x.found(item, 60), -1);
        }
        FineRows x = withRule();
        x.lost(x.loan(0, 0, 0, 10), 5, 10);
        x.lost(x.loan(59, 0, 0, 10), 6, 10);
        x.pay(0, 11);
        due.is("found(0, 10)", x.found(0, 10), 5);
        due.is("found(59, 10)", x.found(59, 10), 6);
    }

    private static void foundOfWhatIsNotLost() {
        due.part("promise 9: \"NONE if it is not lost\"");
        refusal.is("never lent", Stories.MIXED, x -> x.found(7, 60), -1);
        refusal.is("lent", Stories.MIXED, x -> x.found(2, 60), -1);
        refusal.is("come back, and lent again", Stories.MIXED, x -> x.found(0, 60), -1);
        refusal.is("come back", Stories.MIXED, x -> x.found(5, 60), -1);
        refusal.is("found before", Stories.MIXED, x -> x.found(4, 110), -1);
        FineRows x = told(Stories.MIXED);
        x.loan(4, 0, 0, 0);
        due.is("found before, and lent again", x.found(4, 110), -1);
        due.is("lost again", x.lost(10, 5, 0), 7);
        due.is("found again", x.found(4, 0), 0);
    }

    private static void foundDays() {
        due.part("promise 9: \"NONE if .. no such day\", DAYS 0 .. 1000000");
        FineRows x = told(Stories.MIXED);
        due.is("found(1, 0)", x.found(1, 0), 60);
        due.is("no debt instead", x.debt(7, 0), -1);
        due.is("found(3, 1000000)", x.found(3, 1000000), 0);
        due.is("the day of the debt instead", x.debt(7, 3), 1000000);
        due.is("its amount", x.debt(7, 1), 200);
        for (long day : NO_DAYS) {
            refusal.is("found(1, " + day + ")", Stories.MIXED, y -> y.found(1, day), -1);
        }
    }

    private static void foundCountsNoMore() {
        due.part("promise 9: \"its loss counts no more\"");
        FineRows x = withRule();
        x.interest(0, 1, 1);
        x.lost(x.loan(0, 0, 0, 10), 5000, 10);
        due.is("blocked before", x.blocked(0), true);
        due.is("found(0, 10)", x.found(0, 10), 0);
        due.is("nothing is left", x.debt(1, 2), 0);
        due.is("no interest", x.debt(1, 5), 0);
        due.is("nothing is owed", x.owes(0, 1000000), 0);
        due.is("not blocked", x.blocked(0), false);
        due.is("nothing to plan", x.plan(0, 1, 0), 0);
        due.is("nothing to waive", x.waive(1, 100000), 0);
        due.is("it gets nothing", x.pay(0, 7), 0);
        due.is("all of that is credit", x.owes(0, -1), -7);
    }

    private static void foundCreditIsWhatWasPaid() {
        due.part("promise 9: \"what was paid of it is CREDIT of the person .. : the cents of the credit\"");
        for (int paid : new int[] {1, 299, 300, 301}) {
            FineRows x = withRule();
            x.lost(x.loan(0, 8, 0, 10), 300, 10);
            x.pay(8, paid);
            due.is("found behind a payment of " + paid, x.found(0, 10), Math.min(paid, 300));
            due.is("owes(8, -1)", x.owes(8, -1), -paid);
            due.is("owes(7, -1)", x.owes(7, -1), 0);
        }
        FineRows y = withRule();
        y.lost(y.loan(1, 8, 0, 10), 300, 10);
        y.pay(8, 1);
        y.pay(8, 2);
        y.pay(8, 297);
        due.is("paid three times", y.found(1, 10), 300);
        foundByCredit();
    }

    private static void foundByCredit() {
        FineRows y = withRule();
        y.lost(y.loan(0, 8, 0, 10), 300, 10);
        due.is("nothing was paid", y.found(0, 10), 0);
        y.pay(8, 40);
        y.lost(y.loan(0, 8, 0, 10), 300, 10);
        y.pay(8, 1);
        due.is("what credit paid was paid, too", y.found(0, 10), 41);
        due.is("owes(8, -1)", y.owes(8, -1), -41);
    }

    private static void foundCreditIsNotWhatWasWaived() {
        due.part("promise 9: what was waived is no credit");
        FineRows x = withRule();
        x.lost(x.loan(0, 8, 0, 10), 300, 10);
        x.waive(1, 300);
        due.is("all waived", x.found(0, 10), 0);
        x.lost(x.loan(0, 8, 0, 10), 300, 10);
        x.pay(8, 1);
        x.waive(2, 299);
        due.is("all but a cent waived", x.found(0, 10), 1);
        due.is("owes(8, -1)", x.owes(8, -1), -1);
    }

    private static void foundByTheDueDay() {
        due.part("promise 9: \"OVERDUE on that day by the loan's due day is a debt instead\"");
        FineRows x = withRule();
        x.closed(15);
        x.lost(x.loan(0, 8, 0, 10), 300, 90);
        x.pay(8, 300);
        due.is("found(0, 20)", x.found(0, 20), 300);
        due.is("its person", x.debt(2, 0), 8);
        due.is("its amount", x.debt(2, 1), 90);
        due.is("its left, as credit waits for a payment", x.debt(2, 2), 90);
        due.is("its day", x.debt(2, 3), 20);
        due.is("its sort", x.debt(2, 4), 0);
        due.is("owes(8, -1)", x.owes(8, -1), -210);
        due.is("a cent pays it with the credit", x.pay(8, 1), 1);
        due.is("its left", x.debt(2, 2), 0);
        due.is("owes(8, -1)", x.owes(8, -1), -211);
    }

    private static void foundWithoutADebt() {
        due.part("promise 9: a debt instead \"(if above 0)\"");
        FineRows x = new FineRows();
        x.rule(10, 1000, 2);
        x.rule(0, 1000, 0);
        x.rule(10, 0, 0);
        int[] rules = {0, 0, 0, 1, 2, 0};
        long[] days = {0, 10, 12, 20, 20, 13};
        for (int item = 0; item < 6; item++) {
            x.lost(x.loan(item, 0, rules[item], 10), 5, 10);
        }
        for (int item = 0; item < 5; item++) {
            due.is("found(" + item + ", " + days[item] + ")", x.found(item, days[item]), 0);
            due.is("no debt instead", x.debt(7, 0), -1);
            due.is("no loan any more", x.overdue(item + 1, 20), -1);
        }
        due.is("the first day behind grace", x.found(5, 13), 0);
        due.is("a debt instead", x.debt(7, 1), 30);
    }

    private static void foundFull() {
        due.part("promise 9: \"NONE if .. a debt would be the 201st\"");
        refusal.is("late, paid", Stories.DEBTS_200, x -> x.found(0, 11), -1);
        refusal.is("late, paid in part", Stories.DEBTS_200, x -> x.found(1, 11), -1);
        refusal.is("late, not paid", Stories.DEBTS_200, x -> x.found(4, 1000000), -1);
        FineRows x = told(Stories.DEBTS_200);
        due.is("in time, paid, as no debt would be", x.found(0, 10), 50);
        due.is("in time, paid in part", x.found(1, 10), 5);
        due.is("in time, not paid", x.found(4, 0), 0);
        due.is("no debt instead", x.debt(201, 0), -1);
        due.is("owes(0, -1)", x.owes(0, -1), 1 - 55);
        due.is("found again", x.found(0, 10), -1);
        due.is("the 200th by an item that is found", foundAsTheLastDebt(), 200);
    }

    /** The number of the debt that is there instead of a loss, which was itself the 199th. */
    private static int foundAsTheLastDebt() {
        FineRows x = new FineRows();
        x.rule(1, 1, 0);
        for (int number = 1; number <= 100; number++) {
            x.loan(0, 0, 0, 0);
            due.is("lost", x.lost(number, 1, 0), 2 * number - 1);
            due.is("found", x.found(0, 1), 0);
        }
        return x.debt(200, 4) == 0 && x.debt(201, 4) == -1 ? 200 : -1;
    }
}
