/**
 * The boundaries of promises 11 and 12, and of the terms behind them: fees, selling, how a day
 * ends; a test for each sentence.
 */
public final class DaysBoundsTest {
    public static void main(String[] args) {
        daysOfPass();
        dayAbove1000();
        howManyAreSold();
        dayOfToday();
        feeWithEachDayThatEnds();
        feeAtACounter();
        feeWithALoanThen();
        loanFirst();
        feesAsFarAsItGoes();
        soldWithoutALoan();
        soldIsNotWanted();
        loanKeepsAtTheCounter();
        feesBeforeSelling();
        lastDayEnds();
        daysAtCounters();
        daysAtCountersOrMore();
        daysAtSeveralCounters();
        calledAndUnfetched();
        soldIsNotBrought();
        roomOfWhatIsSold();
        Check.finish();
    }

    private static void daysOfPass() {
        Check.sentence("Promise 11", "days: 1 to 40");
        LeftThings x = new LeftThings();
        Check.refuses("0 days", Check.ARGUMENT, () -> x.pass(0));
        Check.refuses("-1 days", Check.ARGUMENT, () -> x.pass(-1));
        Check.refuses("41 days", Check.ARGUMENT, () -> x.pass(41));
        Check.refuses("least days", Check.ARGUMENT, () -> x.pass(Integer.MIN_VALUE));
        Check.refuses("greatest days", Check.ARGUMENT, () -> x.pass(Integer.MAX_VALUE));
        Check.same("day after refusals", x.day(), 0);
        x.pass(1);
        Check.same("1 day", x.day(), 1);
        x.pass(40);
        Check.same("40 days", x.day(), 41);
    }

    private static void dayAbove1000() {
        Check.sentence("Promise 11", "if the day would be above 1000");
        for (int days = 1; days <= 40; days += 13) {
            int count = days;
            LeftThings x = Towns.onDay(1001 - count);
            Check.refuses("to day 1001 by " + count, Check.STATE, () -> x.pass(count));
            Check.same("day after refusal", x.day(), 1001 - count);
        }
        for (int days = 1; days <= 40; days += 13) {
            LeftThings x = Towns.onDay(1000 - days);
            Check.same("to day 1000 by " + days, x.pass(days), 0);
            Check.same("day", x.day(), 1000);
            Check.refuses("a day more", Check.STATE, () -> x.pass(1));
            Check.refuses("0 days more", Check.ARGUMENT, () -> x.pass(0));
            Check.refuses("41 days more", Check.ARGUMENT, () -> x.pass(41));
        }
    }

    private static void howManyAreSold() {
        Check.sentence("Promise 11", "Returns how many things are sold");
        LeftThings none = new LeftThings();
        Check.same("none in an empty town", none.pass(40), 0);
        LeftThings all = Towns.withThings(24);
        Check.same("none of 24", all.pass(29), 0);
        Check.same("all of 24", all.pass(1), 24);
        Check.same("none is left", all.pass(40), 0);
        LeftThings x = Towns.withThings(3);
        x.lend(0, 7, 10);
        x.doubt(0);
        x.pass(1);
        x.lend(1, 7, 10);
        x.doubt(1);
        Check.same("two called and one unfetched, on three days", x.pass(29), 3);
        Check.same("the first", x.whereOn(0, 3) * 100 + x.whereOn(0, 4), 11);
        Check.same("the second", x.whereOn(1, 4) * 100 + x.whereOn(1, 5), 111);
        Check.same("the third", x.whereOn(2, 29) * 100 + x.whereOn(2, 30), 211);
    }

    private static void dayOfToday() {
        Check.sentence("Promise 12", "Returns the day");
        LeftThings x = new LeftThings();
        Check.same("first", x.day(), 0);
        Towns.passUntil(x, 999);
        Check.same("last but one", x.day(), 999);
        x.pass(1);
        Check.same("last", x.day(), 1000);
        Check.refuses("above", Check.STATE, () -> x.pass(1));
        Check.same("last still", x.day(), 1000);
    }

    private static void feeWithEachDayThatEnds() {
        Check.sentence("Fees", "with each day that ends, a thing at a counter owes a fee: twice its size");
        LeftThings x = new LeftThings();
        for (int size = 1; size <= 3; size++) {
            x.leave(0, size, 0);
        }
        for (int days = 0; days <= 3; days++) {
            for (int size = 1; size <= 3; size++) {
                Check.same("size " + size + ", days " + days, x.fees(size - 1), 2 * size * days);
            }
            x.pass(1);
        }
    }

    private static void feeAtACounter() {
        Check.sentence("Fees", "a thing at a counter: not one that is fetched or sold");
        LeftThings x = Towns.withThings(2);
        x.pass(1);
        x.fetch(0);
        x.pass(29);
        Check.same("fees of a fetched thing", x.fees(0), 2);
        int paid = x.fees(1);
        x.pass(1);
        Check.same("fees of a sold thing", x.fees(1), paid);
        Check.same("taken", x.taken(), 2 + paid);
    }

    private static void feeWithALoanThen() {
        Check.sentence("Fees", "half of that, its size, if a loan is on it then");
        for (int size = 1; size <= 3; size++) {
            LeftThings x = new LeftThings();
            x.leave(0, size, 0);
            x.lend(0, 1, 1);
            x.repay(0);
            x.pass(1);
            Check.same("a loan that was repaid on the day", x.fees(0), 2 * size);
            x.lend(0, 1, 1);
            x.pass(1);
            Check.same("a loan on the day", x.fees(0), 3 * size);
            x.doubt(0);
            x.pass(1);
            Check.same("a called loan", x.fees(0), 4 * size);
            x.repay(0);
            x.pass(1);
            Check.same("no loan any more", x.fees(0), 6 * size);
        }
    }

    /** Of size 1, doubted on day 0: four days with a loan, so it owes 4. */
    private static LeftThings soldFor(int worth) {
        LeftThings x = Towns.withLoan();
        x.value(0, worth);
        x.doubt(0);
        Check.same("sold for " + worth, x.pass(4), 1);
        return x;
    }

    private static void loanFirst() {
        Check.sentence("Selling", "the lender's purse gets the loan first, or what there is");
        int[] worths = {0, 1, 9, 10, 11, 10000};
        int[] lenderGets = {0, 1, 9, 10, 10, 10};
        for (int i = 0; i < worths.length; i++) {
            LeftThings x = soldFor(worths[i]);
            Check.same("lender of " + worths[i], x.purse(1), lenderGets[i]);
            Check.same("all of " + worths[i], x.purse(0) - 10 + x.purse(1) + x.taken(), worths[i]);
        }
    }

    private static void feesAsFarAsItGoes() {
        Check.sentence("Selling", "then the fees are taken, as far as it goes; what is left goes to the owner");
        int[] worths = {10, 11, 13, 14, 15, 10000};
        int[] feesGet = {0, 1, 3, 4, 4, 4};
        int[] ownerGets = {0, 0, 0, 0, 1, 9986};
        for (int i = 0; i < worths.length; i++) {
            LeftThings x = soldFor(worths[i]);
            Check.same("fees of " + worths[i], x.fees(0), feesGet[i]);
            Check.same("taken of " + worths[i], x.taken(), feesGet[i]);
            Check.same("owner of " + worths[i], x.purse(0), 10 + ownerGets[i]);
        }
    }

    private static void soldWithoutALoan() {
        Check.sentence("Selling", "the loan first, if there is one");
        int[] worths = {0, 59, 60, 61, 10000};
        int[] feesGet = {0, 59, 60, 60, 60};
        for (int i = 0; i < worths.length; i++) {
            LeftThings x = Towns.withOne();
            x.lend(0, 1, 10);
            x.repay(0);
            x.value(0, worths[i]);
            Check.same("sold for " + worths[i], x.pass(30), 1);
            Check.same("lender of before, " + worths[i], x.purse(1), 10);
            Check.same("fees of " + worths[i], x.fees(0), feesGet[i]);
            Check.same("owner of " + worths[i], x.purse(0), 10 + worths[i] - feesGet[i]);
        }
    }

    private static void soldIsNotWanted() {
        Check.sentence("Selling", "a thing that is sold is not wanted any more");
        for (int sold = 0; sold < 3; sold++) {
            LeftThings x = Towns.withThings(3);
            x.setVan(0);
            for (int number = 0; number < 3; number++) {
                x.want(number, 4);
            }
            x.lend(sold, 7, 10);
            x.doubt(sold);
            x.pass(4);
            Check.same("first of two, without " + sold, x.wish(0), sold == 0 ? 1 : 0);
            Check.same("last of two, without " + sold, x.wish(1), sold == 2 ? 1 : 2);
            Check.refuses("a third", Check.INDEX, () -> x.wish(2));
        }
    }

    private static void loanKeepsAtTheCounter() {
        Check.sentence("Loans", "a thing with a loan does not leave its counter, but by being sold");
        LeftThings x = Towns.withLoan();
        x.want(0, 1);
        Check.refuses("fetched", Check.STATE, () -> x.fetch(0));
        Check.same("unfetched", x.pass(40), 0);
        Check.same("brought", x.where(0), 0);
        x.doubt(0);
        x.pass(3);
        Check.same("called", x.where(0), 0);
        x.pass(1);
        Check.same("sold", x.where(0), 11);
    }

    private static void feesBeforeSelling() {
        Check.sentence("A day ends", "fees are owed; then loans that were called are settled");
        LeftThings called = Towns.withLoan();
        called.value(0, 1000);
        called.doubt(0);
        called.pass(4);
        Check.same("half a fee for its last day too", called.fees(0), 4);
        LeftThings unfetched = Towns.withOne();
        unfetched.value(0, 1000);
        unfetched.pass(30);
        Check.same("a fee for the 30th day too", unfetched.fees(0), 60);
    }

    private static void lastDayEnds() {
        Check.sentence("A day ends", "loans that were called and whose last day ends are settled by selling");
        LeftThings x = Towns.withThings(4);
        x.lend(3, 7, 10);
        x.lend(1, 7, 10);
        x.lend(0, 7, 10);
        x.doubt(3);
        x.doubt(0);
        x.pass(1);
        x.doubt(1);
        Check.same("2 days later", x.pass(2), 0);
        Check.same("two on one day", x.pass(1), 2);
        Check.same("which", x.where(0) * 100 + x.where(3), 1111);
        Check.same("not the one of a day later", x.where(1), 1);
        Check.same("a day later", x.pass(1), 1);
        Check.same("not the one without a loan", x.where(2), 2);
    }

    private static void daysAtCounters() {
        Check.sentence("A day ends", "that have been at counters for 30 days that have ended, this one included");
        for (int leftOn = 0; leftOn <= 40; leftOn += 20) {
            LeftThings x = Towns.onDay(leftOn);
            x.leave(0, 1, 0);
            Check.same("29 days", x.pass(29), 0);
            Check.same("there on the 30th day", x.where(0), 0);
            Check.same("30 days", x.pass(1), 1);
            Check.same("sold", x.where(0), 11);
        }
    }

    private static void daysAtCountersOrMore() {
        Check.sentence("A day ends", "or more; things without a loan");
        LeftThings x = Towns.withThings(3);
        for (int number = 0; number < 3; number++) {
            x.lend(number, 7, 1);
        }
        x.pass(29);
        x.repay(0);
        Check.same("30 days, without a loan", x.pass(1), 1);
        x.repay(1);
        Check.same("31 days, without a loan", x.pass(1), 1);
        Check.same("days with a loan", x.pass(40), 0);
        x.repay(2);
        Check.same("until its day ends", x.where(2), 2);
        Check.same("72 days, without a loan", x.pass(1), 1);
    }

    private static void daysAtSeveralCounters() {
        Check.sentence("A day ends", "at counters: whichever they were");
        LeftThings x = Towns.withOne();
        x.want(0, 1);
        x.pass(20);
        x.want(0, 2);
        Check.same("29 days at three counters", x.pass(9), 0);
        Check.same("place", x.where(0), 2);
        Check.same("30 days at three counters", x.pass(1), 1);
    }

    private static void calledAndUnfetched() {
        Check.sentence("A day ends", "then things without a loan: what was sold by then is not sold again");
        LeftThings x = Towns.withLoan();
        x.value(0, 1000);
        x.pass(26);
        x.doubt(0);
        Check.same("29 days", x.pass(3), 0);
        Check.same("called and there for 30 days", x.pass(1), 1);
        Check.same("lender", x.purse(1), 10);
        Check.same("taken", x.taken(), 30);
        Check.same("owner", x.purse(0), 10 + 960);
    }

    private static void soldIsNotBrought() {
        Check.sentence("A day ends", "then the van drives: not with what was sold");
        LeftThings x = Towns.withOne();
        x.setVan(0);
        x.want(0, 1);
        x.pass(29);
        x.setVan(6);
        Check.same("sold", x.pass(1), 1);
        Check.same("not brought", x.where(0), 11);
        Check.same("load", x.load(1), 0);
    }

    private static void roomOfWhatIsSold() {
        Check.sentence("A day ends", "then the van drives: into the room of what was sold");
        LeftThings called = Towns.withLoan();
        called.setRoom(0, 1);
        called.leave(0, 1, 1);
        called.want(1, 0);
        called.doubt(0);
        called.pass(3);
        Check.same("while there is no room", called.where(1), 1);
        called.pass(1);
        Check.same("where a called loan ended", called.where(1), 0);
        LeftThings unfetched = Towns.withOne();
        unfetched.setRoom(0, 1);
        unfetched.pass(1);
        unfetched.leave(0, 1, 1);
        unfetched.want(1, 0);
        unfetched.pass(28);
        Check.same("while there is no room", unfetched.where(1), 1);
        unfetched.pass(1);
        Check.same("where a thing was never fetched", unfetched.where(1), 0);
    }
}
