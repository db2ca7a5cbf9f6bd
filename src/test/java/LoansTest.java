/** Promises 8 to 10: lend, repay, doubt. */
public final class LoansTest {
    public static void main(String[] args) {
        lending();
        lendingOutOfRange();
        lendingRefused();
        repaying();
        repayingRefused();
        doubting();
        doubtingRefused();
        repaidInTime();
        Check.finish();
    }

    private static void lending() {
        LeftThings x = new LeftThings();
        x.leave(0, 1, 0);
        x.lend(0, 7, 10);
        Check.same("loan", x.loan(0), 10);
        Check.same("purse of the owner", x.purse(0), 10);
        Check.same("purse of the lender", x.purse(7), 0);
        x.leave(7, 1, 0);
        x.value(1, 10000);
        x.lend(1, 0, 5000);
        Check.same("greatest loan", x.loan(1), 5000);
        Check.same("purse of the lender who borrows", x.purse(7), 5000);
        Check.same("purse of the owner who lends", x.purse(0), 10);
    }

    private static void lendingOutOfRange() {
        LeftThings x = new LeftThings();
        x.leave(0, 1, 0);
        x.value(0, 10000);
        Check.refuses("thing -1", Check.INDEX, () -> x.lend(-1, 8, 0));
        Check.refuses("thing 1", Check.INDEX, () -> x.lend(1, 1, 1));
        Check.refuses("lender -1", Check.ARGUMENT, () -> x.lend(0, -1, 1));
        Check.refuses("lender 8", Check.ARGUMENT, () -> x.lend(0, 8, 1));
        Check.refuses("sum 0", Check.ARGUMENT, () -> x.lend(0, 1, 0));
        Check.refuses("sum below 0", Check.ARGUMENT, () -> x.lend(0, 1, Integer.MIN_VALUE));
        Check.refuses("sum 5001", Check.ARGUMENT, () -> x.lend(0, 1, 5001));
        Check.refuses("owner, sum 5001", Check.ARGUMENT, () -> x.lend(0, 0, 5001));
        Check.same("loan after refusals", x.loan(0), 0);
        Check.same("purse after refusals", x.purse(0), 0);
    }

    private static void lendingRefused() {
        LeftThings x = new LeftThings();
        x.leave(3, 1, 0);
        x.leave(3, 1, 0);
        x.value(0, 15);
        Check.refuses("the owner lends", Check.STATE, () -> x.lend(0, 3, 1));
        Check.refuses("above half of 15", Check.STATE, () -> x.lend(0, 1, 8));
        x.lend(0, 1, 7);
        Check.refuses("a second loan", Check.STATE, () -> x.lend(0, 2, 1));
        Check.refuses("a second loan by its lender", Check.STATE, () -> x.lend(0, 1, 1));
        Check.same("the first loan", x.loan(0), 7);
        Check.same("purse", x.purse(3), 7);
        x.fetch(1);
        Check.refuses("on a fetched thing", Check.STATE, () -> x.lend(1, 1, 1));
        x.repay(0);
        x.value(0, 1);
        Check.refuses("half of 1", Check.STATE, () -> x.lend(0, 1, 1));
        x.value(0, 2);
        x.lend(0, 2, 1);
        Check.same("half of 2", x.loan(0), 1);
    }

    private static void repaying() {
        LeftThings x = new LeftThings();
        x.leave(0, 2, 0);
        x.lend(0, 5, 20);
        x.value(0, 1);
        Check.same("sum", x.repay(0), 20);
        Check.same("loan", x.loan(0), 0);
        Check.same("purse of the lender", x.purse(5), 20);
        Check.same("purse of the owner", x.purse(0), 20);
        x.pass(1);
        Check.same("whole fee after it", x.fetch(0), 4);
    }

    private static void repayingRefused() {
        LeftThings x = new LeftThings();
        x.leave(0, 2, 0);
        Check.refuses("thing -1", Check.INDEX, () -> x.repay(-1));
        Check.refuses("thing 1", Check.INDEX, () -> x.repay(1));
        Check.refuses("no loan", Check.STATE, () -> x.repay(0));
        x.lend(0, 1, 20);
        x.repay(0);
        Check.refuses("repaid twice", Check.STATE, () -> x.repay(0));
        x.lend(0, 1, 20);
        x.doubt(0);
        x.pass(4);
        Check.refuses("on a sold thing", Check.STATE, () -> x.repay(0));
        Check.same("purse of the lender", x.purse(1), 40);
    }

    private static void doubting() {
        LeftThings x = new LeftThings();
        x.leave(0, 1, 0);
        x.leave(0, 1, 0);
        x.lend(0, 1, 10);
        x.lend(1, 1, 10);
        x.pass(2);
        Check.same("day to be repaid by", x.doubt(0), 5);
        Check.same("loan stays", x.loan(0), 10);
        Check.same("the days until then", x.pass(3), 0);
        Check.same("its place on the last day", x.where(0), 0);
        Check.same("the last day", x.pass(1), 1);
        Check.same("sold", x.where(0), 11);
        Check.same("the loan that was not doubted", x.where(1), 0);
    }

    private static void doubtingRefused() {
        LeftThings x = new LeftThings();
        x.leave(0, 1, 0);
        Check.refuses("thing -1", Check.INDEX, () -> x.doubt(-1));
        Check.refuses("thing 1", Check.INDEX, () -> x.doubt(1));
        Check.refuses("no loan", Check.STATE, () -> x.doubt(0));
        x.lend(0, 1, 10);
        x.doubt(0);
        x.pass(1);
        Check.refuses("doubted twice", Check.STATE, () -> x.doubt(0));
        x.pass(2);
        Check.same("the first doubt counts", x.pass(1), 1);
        Check.refuses("on a sold thing", Check.STATE, () -> x.doubt(0));
    }

    private static void repaidInTime() {
        LeftThings x = new LeftThings();
        x.leave(0, 1, 0);
        x.lend(0, 1, 10);
        x.doubt(0);
        x.pass(3);
        Check.same("repaid on the last day", x.repay(0), 10);
        Check.refuses("doubt after that", Check.STATE, () -> x.doubt(0));
        x.lend(0, 2, 5);
        Check.same("the new loan is not called", x.pass(5), 0);
        Check.same("the new loan can be doubted", x.doubt(0), 11);
        Check.same("and is called then", x.pass(4), 1);
        Check.same("purse of the new lender", x.purse(2), 5);
        Check.same("purse of the lender before", x.purse(1), 10);
    }
}
