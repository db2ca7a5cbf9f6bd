/** Towns that several tests begin with. */
final class Towns {
    private Towns() {
    }

    /** Without things, on a day up to 1000. */
    static LeftThings onDay(int day) {
        LeftThings x = new LeftThings();
        passUntil(x, day);
        return x;
    }

    static void passUntil(LeftThings x, int day) {
        for (int today = x.day(); today < day; today = x.day()) {
            x.pass(Math.min(40, day - today));
        }
    }

    /** With things of size 1 and of owners 0 to 7, laid out over the counters in turn. */
    static LeftThings withThings(int count) {
        LeftThings x = new LeftThings();
        for (int number = 0; number < count; number++) {
            x.leave(number % 8, 1, number % 5);
        }
        return x;
    }

    /** Thing 0, of owner 0 and size 1, at counter 0. */
    static LeftThings withOne() {
        return withThings(1);
    }

    /** Thing 0 is fetched, on day 0. */
    static LeftThings withFetched() {
        LeftThings x = withOne();
        x.fetch(0);
        return x;
    }

    /** Thing 0 was sold at the end of day 3, when the loan of person 1 was called. */
    static LeftThings withSold() {
        LeftThings x = withLoan();
        x.doubt(0);
        x.pass(4);
        return x;
    }

    /** Thing 0 has a loan of 10, the most that it bears, from person 1. */
    static LeftThings withLoan() {
        LeftThings x = withOne();
        x.lend(0, 1, 10);
        return x;
    }

    /**
     * Some of everything, on day 6: thing 0 is sold, 1 is fetched, 2 is too large for the van and
     * wanted at 2, 3 has a loan that was called the day before and is wanted at 4, 4 has a loan, 5
     * is wanted at 0; counter 3 is fuller than its room.
     */
    static LeftThings busy() {
        LeftThings x = withSold();
        x.leave(1, 2, 0);
        x.pass(1);
        x.fetch(1);
        x.leave(2, 3, 1);
        x.leave(3, 1, 1);
        x.leave(4, 2, 2);
        x.leave(5, 1, 3);
        x.lend(3, 4, 5);
        x.doubt(3);
        x.pass(1);
        x.want(2, 2);
        x.want(3, 4);
        x.want(5, 0);
        x.lend(4, 7, 20);
        x.value(4, 90);
        x.setRoom(3, 0);
        x.setRoom(1, 7);
        x.setVan(2);
        return x;
    }
}
