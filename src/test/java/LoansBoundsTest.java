/** The boundaries of promises 8 to 10, and of the terms behind them, a test for each sentence. */
public final class LoansBoundsTest {
    private static final int[] NUMBERS_OF_NONE = {-1, 1, 23, 24, Integer.MIN_VALUE, Integer.MAX_VALUE};

    public static void main(String[] args) {
        lenderOfLend();
        sumOfLend();
        noSuchThingToLendOn();
        lendAwayFromCounters();
        lenderIsOwner();
        lendOnALoan();
        aboveHalfOfItsWorth();
        halfRoundedDown();
        worthAfterLending();
        ownersPurse();
        sumOfRepay();
        lendersPurse();
        noSuchThingToRepay();
        noLoanToRepay();
        dayOfDoubt();
        noSuchThingToDoubt();
        noLoanToDoubt();
        doubtedOnce();
        newLoanDoubted();
        lastDayToRepay();
        notRepaid();
        Check.finish();
    }

    private static void lenderOfLend() {
        Check.sentence("Promise 8", "lender: 0 to 7");
        LeftThings x = new LeftThings();
        x.leave(3, 1, 0);
        Check.refuses("lender -1", Check.ARGUMENT, () -> x.lend(0, -1, 1));
        Check.refuses("lender 8", Check.ARGUMENT, () -> x.lend(0, 8, 1));
        Check.refuses("least lender", Check.ARGUMENT, () -> x.lend(0, Integer.MIN_VALUE, 1));
        Check.refuses("greatest lender", Check.ARGUMENT, () -> x.lend(0, Integer.MAX_VALUE, 1));
        for (int lender = 0; lender < 8; lender++) {
            if (lender != 3) {
                x.lend(0, lender, 1);
                x.repay(0);
                Check.same("purse of lender " + lender, x.purse(lender), 1);
            }
        }
    }

    private static void sumOfLend() {
        Check.sentence("Promise 8", "sum: 1 to 5000");
        LeftThings x = Towns.withOne();
        x.value(0, 10000);
        Check.refuses("sum 0", Check.ARGUMENT, () -> x.lend(0, 1, 0));
        Check.refuses("sum -1", Check.ARGUMENT, () -> x.lend(0, 1, -1));
        Check.refuses("sum 5001", Check.ARGUMENT, () -> x.lend(0, 1, 5001));
        Check.refuses("least sum", Check.ARGUMENT, () -> x.lend(0, 1, Integer.MIN_VALUE));
        Check.refuses("greatest sum", Check.ARGUMENT, () -> x.lend(0, 1, Integer.MAX_VALUE));
        x.lend(0, 1, 1);
        Check.same("sum 1", x.repay(0), 1);
        x.lend(0, 1, 5000);
        Check.same("sum 5000", x.repay(0), 5000);
    }

    private static void noSuchThingToLendOn() {
        Check.sentence("Promise 8", "if there is no such thing");
        LeftThings x = Towns.withOne();
        for (int number : NUMBERS_OF_NONE) {
            Check.refuses("thing " + number, Check.INDEX, () -> x.lend(number, 1, 1));
            Check.refuses("thing " + number + ", lender 8", Check.INDEX, () -> x.lend(number, 8, 1));
            Check.refuses("thing " + number + ", sum 0", Check.INDEX, () -> x.lend(number, 1, 0));
        }
        x.lend(0, 1, 1);
        Check.same("the last there is", x.loan(0), 1);
    }

    private static void lendAwayFromCounters() {
        Check.sentence("Promise 8", "if it is not at a counter");
        LeftThings fetched = Towns.withFetched();
        LeftThings sold = Towns.withSold();
        Check.refuses("fetched", Check.STATE, () -> fetched.lend(0, 1, 1));
        Check.refuses("sold", Check.STATE, () -> sold.lend(0, 1, 1));
        Check.same("loan of a fetched thing", fetched.loan(0), 0);
        Check.same("loan of a sold thing", sold.loan(0), 0);
        for (int counter = 0; counter < 5; counter++) {
            LeftThings x = new LeftThings();
            x.leave(0, 1, counter);
            x.lend(0, 1, 1);
            Check.same("at counter " + counter, x.loan(0), 1);
        }
    }

    private static void lenderIsOwner() {
        Check.sentence("Promise 8", "the lender is its owner");
        for (int owner = 0; owner < 8; owner++) {
            int person = owner;
            LeftThings x = new LeftThings();
            x.leave(person, 1, 0);
            Check.refuses("owner " + person, Check.STATE, () -> x.lend(0, person, 1));
            x.lend(0, (person + 1) % 8, 1);
            x.repay(0);
            Check.refuses("owner after another's loan", Check.STATE, () -> x.lend(0, person, 1));
            x.lend(0, (person + 7) % 8, 1);
            Check.same("loan", x.loan(0), 1);
        }
    }

    private static void lendOnALoan() {
        Check.sentence("Promise 8", "it has a loan");
        LeftThings x = Towns.withOne();
        x.lend(0, 1, 1);
        Check.refuses("by its lender", Check.STATE, () -> x.lend(0, 1, 1));
        Check.refuses("by another", Check.STATE, () -> x.lend(0, 2, 1));
        x.doubt(0);
        Check.refuses("when it is called", Check.STATE, () -> x.lend(0, 2, 1));
        Check.same("purse", x.purse(0), 1);
        x.repay(0);
        x.lend(0, 1, 2);
        Check.same("once it is repaid", x.loan(0), 2);
    }

    private static void aboveHalfOfItsWorth() {
        Check.sentence("Promise 8", "sum is above half of its worth");
        int[] worths = {2, 4, 20, 60, 1000, 9998, 10000};
        for (int worth : worths) {
            LeftThings x = Towns.withOne();
            x.value(0, worth);
            Class<?> due = worth == 10000 ? Check.ARGUMENT : Check.STATE;
            Check.refuses("1 above half of " + worth, due, () -> x.lend(0, 1, worth / 2 + 1));
            x.lend(0, 1, worth / 2);
            Check.same("half of " + worth, x.loan(0), worth / 2);
        }
        LeftThings x = Towns.withOne();
        x.value(0, 0);
        Check.refuses("1 on worth 0", Check.STATE, () -> x.lend(0, 1, 1));
    }

    private static void halfRoundedDown() {
        Check.sentence("Promise 8", "a loan is at most half of its worth, rounded down");
        LeftThings x = Towns.withOne();
        x.value(0, 1);
        Check.refuses("1 on worth 1", Check.STATE, () -> x.lend(0, 1, 1));
        x.value(0, 3);
        Check.refuses("2 on worth 3", Check.STATE, () -> x.lend(0, 1, 2));
        x.lend(0, 1, 1);
        Check.same("1 on worth 3", x.repay(0), 1);
        x.value(0, 9999);
        Check.refuses("5000 on worth 9999", Check.STATE, () -> x.lend(0, 1, 5000));
        x.lend(0, 1, 4999);
        Check.same("4999 on worth 9999", x.repay(0), 4999);
    }

    private static void worthAfterLending() {
        Check.sentence("Promise 8", "the worth counts when it is lent");
        LeftThings x = Towns.withLoan();
        x.value(0, 0);
        Check.same("loan above worth stays", x.loan(0), 10);
        x.repay(0);
        Check.refuses("no such loan anew", Check.STATE, () -> x.lend(0, 1, 1));
        x.value(0, 2);
        x.lend(0, 1, 1);
        Check.same("with worth anew", x.loan(0), 1);
    }

    private static void ownersPurse() {
        Check.sentence("Promise 8", "it goes into the owner's purse; a purse never falls");
        LeftThings x = Towns.withOne();
        x.lend(0, 1, 10);
        Check.same("owner", x.purse(0), 10);
        Check.same("lender, with nothing", x.purse(1), 0);
        x.repay(0);
        Check.same("owner, repaid", x.purse(0), 10);
        x.lend(0, 1, 4);
        Check.same("owner, lent to again", x.purse(0), 14);
        Check.same("lender, with something", x.purse(1), 10);
    }

    private static void sumOfRepay() {
        Check.sentence("Promise 9", "Returns the sum");
        LeftThings x = Towns.withThings(2);
        x.lend(0, 1, 7);
        x.lend(1, 0, 10);
        x.pass(40);
        x.value(0, 3);
        Check.same("first, after its worth fell", x.repay(0), 7);
        Check.same("second, whole half", x.repay(1), 10);
        Check.same("loan after it", x.loan(0), 0);
    }

    private static void lendersPurse() {
        Check.sentence("Promise 9", "repaying it puts it into the lender's purse");
        LeftThings x = Towns.withOne();
        x.lend(0, 7, 3);
        x.repay(0);
        x.lend(0, 6, 4);
        x.repay(0);
        Check.same("first lender", x.purse(7), 3);
        Check.same("second lender", x.purse(6), 4);
        Check.same("owner", x.purse(0), 7);
        Check.same("taken", x.taken(), 0);
    }

    private static void noSuchThingToRepay() {
        Check.sentence("Promise 9", "if there is no such thing");
        LeftThings x = Towns.withLoan();
        for (int number : NUMBERS_OF_NONE) {
            Check.refuses("thing " + number, Check.INDEX, () -> x.repay(number));
        }
        Check.same("the last there is", x.repay(0), 10);
    }

    private static void noLoanToRepay() {
        Check.sentence("Promise 9", "if it has no loan");
        LeftThings x = Towns.withThings(2);
        Check.refuses("none yet", Check.STATE, () -> x.repay(0));
        x.lend(1, 2, 1);
        Check.refuses("another thing has", Check.STATE, () -> x.repay(0));
        x.repay(1);
        Check.refuses("repaid", Check.STATE, () -> x.repay(1));
        Check.same("purse of the lender", x.purse(2), 1);
        LeftThings fetched = Towns.withFetched();
        Check.refuses("fetched", Check.STATE, () -> fetched.repay(0));
        LeftThings sold = Towns.withSold();
        Check.refuses("sold", Check.STATE, () -> sold.repay(0));
        Check.same("purse of its lender", sold.purse(1), 10);
    }

    private static void dayOfDoubt() {
        Check.sentence("Promise 10", "Returns the day by whose end it is to be repaid");
        int[] days = {0, 1, 39, 997, 998, 1000};
        for (int day : days) {
            LeftThings x = Towns.onDay(day);
            x.leave(0, 1, 0);
            x.lend(0, 1, 1);
            Check.same("doubted on day " + day, x.doubt(0), day + 3);
        }
    }

    private static void noSuchThingToDoubt() {
        Check.sentence("Promise 10", "if there is no such thing");
        LeftThings x = Towns.withLoan();
        for (int number : NUMBERS_OF_NONE) {
            Check.refuses("thing " + number, Check.INDEX, () -> x.doubt(number));
        }
        Check.same("the last there is", x.doubt(0), 3);
    }

    private static void noLoanToDoubt() {
        Check.sentence("Promise 10", "if it has no loan");
        LeftThings x = Towns.withThings(2);
        Check.refuses("none yet", Check.STATE, () -> x.doubt(0));
        x.lend(1, 2, 1);
        Check.refuses("another thing has", Check.STATE, () -> x.doubt(0));
        x.repay(1);
        Check.refuses("repaid", Check.STATE, () -> x.doubt(1));
        LeftThings fetched = Towns.withFetched();
        Check.refuses("fetched", Check.STATE, () -> fetched.doubt(0));
        LeftThings sold = Towns.withSold();
        Check.refuses("sold", Check.STATE, () -> sold.doubt(0));
    }

    private static void doubtedOnce() {
        Check.sentence("Promise 10", "or that was doubted");
        LeftThings x = Towns.withLoan();
        Check.same("once", x.doubt(0), 3);
        Check.refuses("twice on a day", Check.STATE, () -> x.doubt(0));
        for (int day = 1; day <= 3; day++) {
            x.pass(1);
            Check.refuses("again on day " + day, Check.STATE, () -> x.doubt(0));
        }
        Check.same("the first doubt counts", x.pass(1), 1);
    }

    private static void newLoanDoubted() {
        Check.sentence("Promise 10", "a loan can be doubted once, a new loan anew");
        LeftThings x = Towns.withLoan();
        x.doubt(0);
        x.pass(2);
        x.repay(0);
        x.lend(0, 1, 10);
        Check.same("the old doubt is gone", x.pass(5), 0);
        Check.same("doubted anew", x.doubt(0), 10);
        Check.same("until then", x.pass(3), 0);
        Check.same("its last day", x.pass(1), 1);
    }

    private static void lastDayToRepay() {
        Check.sentence("Promise 10", "is to be repaid by the end of the day that comes 3 days later");
        for (int days = 0; days <= 3; days++) {
            LeftThings x = Towns.withLoan();
            x.doubt(0);
            Check.same("sold before it", days == 0 ? 0 : x.pass(days), 0);
            Check.same("repaid on day " + days, x.repay(0), 10);
            Check.same("sold after it", x.pass(5), 0);
            Check.same("place", x.where(0), 0);
        }
    }

    private static void notRepaid() {
        Check.sentence("Promise 10", "if it is not, the thing is sold");
        LeftThings x = Towns.withLoan();
        x.doubt(0);
        Check.same("3 days", x.pass(3), 0);
        Check.same("on the last day", x.where(0), 0);
        Check.same("the last day ends", x.pass(1), 1);
        Check.same("sold", x.where(0), 11);
        LeftThings inOne = Towns.withLoan();
        inOne.doubt(0);
        Check.same("in one call", inOne.pass(40), 1);
        Check.same("at the beginning of its last day", inOne.whereOn(0, 3), 0);
        Check.same("at the beginning of the next", inOne.whereOn(0, 4), 11);
        LeftThings alone = Towns.withLoan();
        Check.same("a loan that nobody doubts", alone.pass(40), 0);
    }
}
