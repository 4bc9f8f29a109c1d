/** What has been called on an object before the calls that a test is about. */
interface Stories {
    void tell(FineRows x);

    /** Nothing yet. */
    Stories NEW = x -> { };

    /**
     * Something of everything. Rules 0 to 2; items 0 (again), 2 and 6 lent, 1, 3 and 59 lost, 4 found, 5 come
     * back; debts 1 to 6, one of them waived, one paid in part and one found; person 2 has a credit of 100
     * and person 3 one of 25.
     */
    Stories MIXED = x -> {
        x.rule(10, 1000, 0);
        x.rule(1, 10000000, 2);
        x.rule(50, 200, 5);
        x.interest(0, 1, 3);
        x.interest(1, 7, 100);
        x.closed(12);
        x.closed(20);
        x.closed(1000);
        x.threshold(400);
        x.loan(0, 0, 0, 10);
        x.back(1, 15);
        x.loan(1, 0, 0, 10);
        x.lost(2, 300, 12);
        x.loan(2, 1, 1, 0);
        x.loan(3, 1, 2, 30);
        x.lost(4, 500, 40);
        x.loan(4, 2, 0, 100);
        x.lost(5, 250, 105);
        x.pay(2, 100);
        x.found(4, 110);
        x.loan(0, 3, 2, 50);
        x.loan(5, 0, 1, 5);
        x.back(7, 5);
        x.loan(6, 29, 0, 1000000);
        x.pay(0, 60);
        x.pay(3, 25);
        x.waive(1, 40);
        x.loan(59, 29, 0, 500);
        x.lost(9, 77, 500);
    };

    /** All of MIXED, and rules up to the tenth. */
    Stories TEN_RULES = x -> {
        MIXED.tell(x);
        for (int number = 3; number < 10; number++) {
            x.rule(number, 1000 * number, 1);
        }
    };

    /** All of MIXED, and closed days up to the hundredth: 12, 20, 1000, and 203 to 299. */
    Stories CLOSED_100 = x -> {
        MIXED.tell(x);
        for (long day = 203; day < 300; day++) {
            x.closed(day);
        }
    };

    /** All of MIXED, and loans up to the 120th, of which the last one is still lent, as item 50. */
    Stories LOANS_120 = x -> {
        MIXED.tell(x);
        for (int number = 10; number < 120; number++) {
            x.loan(50, 7, 0, 5);
            x.back(number, 5);
        }
        x.loan(50, 7, 0, 5);
    };

    /**
     * Debts up to the 200th, which 120 loans make only where a found loss leaves a second one. Item 0 is lost
     * by loan 99 (debt 197, paid) and 1 by loan 100 (debt 198, paid in part), items 2 and 3 are lent by loans
     * 101 and 102, 4 is lost by loan 103 (debt 199) and 5 came back late (debt 200): all due on day 10, by a
     * rule of a cent a day, to person 0. Person 1 owes the cents of 98 found losses.
     */
    Stories DEBTS_200 = x -> {
        x.rule(1, 1000, 0);
        x.interest(0, 1, 10);
        for (int number = 1; number <= 98; number++) {
            x.loan(0, 1, 0, 10);
            x.lost(number, 5, 10);
            x.found(0, 11);
        }
        for (int item = 0; item < 6; item++) {
            x.loan(item, 0, 0, 10);
        }
        x.lost(99, 50, 10);
        x.lost(100, 60, 10);
        x.lost(103, 70, 10);
        x.back(104, 11);
        x.pay(0, 55);
    };
}
