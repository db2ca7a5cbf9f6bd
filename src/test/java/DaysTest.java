/** Promises 11 and 12, pass and day, with how a day ends, selling, and the van. */
public final class DaysTest {
    public static void main(String[] args) {
        passing();
        passingRefused();
        lastDay();
        feesByDay();
        sellingShares();
        sellingWhatIsThere();
        sellingUnfetched();
        sellingUnfetchedAfterALoan();
        soldBeforeTheVan();
        vanByOrder();
        vanGoesThroughOnce();
        vanAndRoomMadeOnTheWay();
        vanAndLoans();
        Check.finish();
    }

    private static void passing() {
        LeftThings x = new LeftThings();
        Check.same("nothing sold", x.pass(1), 0);
        Check.same("day", x.day(), 1);
        x.pass(40);
        Check.same("day after 40", x.day(), 41);
    }

    private static void passingRefused() {
        LeftThings x = new LeftThings();
        x.leave(0, 1, 0);
        Check.refuses("0 days", Check.ARGUMENT, () -> x.pass(0));
        Check.refuses("-1 days", Check.ARGUMENT, () -> x.pass(-1));
        Check.refuses("41 days", Check.ARGUMENT, () -> x.pass(41));
        Check.refuses("all days", Check.ARGUMENT, () -> x.pass(Integer.MAX_VALUE));
        Check.same("day after refusals", x.day(), 0);
        Check.same("fees after refusals", x.fees(0), 0);
    }

    private static void lastDay() {
        LeftThings x = new LeftThings();
        for (int times = 0; times < 24; times++) {
            x.pass(40);
        }
        x.pass(30);
        x.leave(0, 1, 0);
        x.lend(0, 1, 10);
        Check.refuses("to day 1001", Check.STATE, () -> x.pass(11));
        Check.same("day after refusal", x.day(), 990);
        Check.same("fees after refusal", x.fees(0), 0);
        x.pass(10);
        Check.same("day 1000", x.day(), 1000);
        Check.same("doubt on day 1000", x.doubt(0), 1003);
        Check.refuses("a day more", Check.STATE, () -> x.pass(1));
        Check.refuses("41 days more", Check.ARGUMENT, () -> x.pass(41));
        Check.same("left on day 1000", x.leave(0, 1, 0), 1);
        Check.same("before day 1000", x.whereOn(1, 999), 12);
        Check.same("on day 1000", x.whereOn(1, 1000), 0);
    }

    private static void feesByDay() {
        LeftThings x = new LeftThings();
        for (int size = 1; size <= 3; size++) {
            x.leave(0, size, size);
        }
        x.pass(1);
        for (int size = 1; size <= 3; size++) {
            Check.same("fee of a day", x.fees(size - 1), 2 * size);
            x.lend(size - 1, 1, 1);
        }
        x.pass(2);
        for (int size = 1; size <= 3; size++) {
            Check.same("fees with a loan", x.fees(size - 1), 4 * size);
            x.repay(size - 1);
        }
        x.pass(1);
        for (int size = 1; size <= 3; size++) {
            Check.same("fees after a loan", x.fees(size - 1), 6 * size);
        }
    }

    private static void sellingShares() {
        LeftThings x = new LeftThings();
        x.leave(0, 3, 0);
        x.value(0, 100);
        x.lend(0, 1, 50);
        x.doubt(0);
        x.want(0, 1);
        Check.same("sold", x.pass(4), 1);
        Check.same("purse of the lender", x.purse(1), 50);
        Check.same("fees, half of them for each day", x.fees(0), 12);
        Check.same("taken", x.taken(), 12);
        Check.same("purse of the owner", x.purse(0), 50 + 38);
        Check.same("loan", x.loan(0), 0);
        Check.same("load", x.load(0), 0);
        Check.refuses("wish", Check.INDEX, () -> x.wish(0));
        x.pass(2);
        Check.same("fees later", x.fees(0), 12);
        Check.refuses("want", Check.STATE, () -> x.want(0, 1));
        Check.refuses("value", Check.STATE, () -> x.value(0, 1));
        Check.refuses("lend", Check.STATE, () -> x.lend(0, 1, 1));
    }

    private static void sellingWhatIsThere() {
        int[] worths = {0, 9, 10, 15, 18, 20};
        int[] lenderGets = {0, 9, 10, 10, 10, 10};
        int[] feesGet = {0, 0, 0, 5, 8, 8};
        int[] ownerGets = {0, 0, 0, 0, 0, 2};
        for (int i = 0; i < worths.length; i++) {
            LeftThings x = new LeftThings();
            x.leave(0, 2, 0);
            x.lend(0, 1, 10);
            x.value(0, worths[i]);
            x.doubt(0);
            x.pass(4);
            Check.same("lender of worth " + worths[i], x.purse(1), lenderGets[i]);
            Check.same("fees of worth " + worths[i], x.fees(0), feesGet[i]);
            Check.same("taken of worth " + worths[i], x.taken(), feesGet[i]);
            Check.same("owner of worth " + worths[i], x.purse(0), 10 + ownerGets[i]);
        }
    }

    private static void sellingUnfetched() {
        LeftThings x = new LeftThings();
        x.leave(0, 1, 0);
        x.leave(4, 3, 0);
        x.value(1, 1000);
        x.pass(5);
        x.leave(2, 1, 0);
        Check.same("not after 29 days", x.pass(24), 0);
        Check.same("still there", x.where(0), 0);
        Check.same("two after 30 days", x.pass(1), 2);
        Check.same("sold", x.where(0), 11);
        Check.same("fees as far as it goes", x.fees(0), 20);
        Check.same("purse of its owner", x.purse(0), 0);
        Check.same("all fees of the other", x.fees(1), 180);
        Check.same("purse of the other's owner", x.purse(4), 820);
        Check.same("taken", x.taken(), 200);
        Check.same("the later thing", x.where(2), 0);
        Check.same("the later thing, in one call", x.pass(40), 1);
        Check.same("the later thing then", x.whereOn(2, 34) * 100 + x.whereOn(2, 35), 11);
    }

    private static void sellingUnfetchedAfterALoan() {
        LeftThings x = new LeftThings();
        x.leave(0, 1, 0);
        x.value(0, 1000);
        x.lend(0, 1, 10);
        Check.same("not with a loan", x.pass(40), 0);
        x.doubt(0);
        x.repay(0);
        Check.same("on the day that it has none", x.pass(1), 1);
        Check.same("fees", x.fees(0), 42);
        Check.same("purse", x.purse(0), 10 + 958);
        Check.same("lender gets nothing more", x.purse(1), 10);
    }

    private static void soldBeforeTheVan() {
        LeftThings x = new LeftThings();
        x.setRoom(1, 3);
        x.leave(0, 3, 1);
        x.pass(29);
        x.leave(0, 3, 0);
        x.want(1, 1);
        x.want(0, 2);
        Check.same("sold", x.pass(1), 1);
        Check.same("sold, not brought", x.where(0), 11);
        Check.same("brought where it was", x.where(1), 1);
        Check.refuses("wishes left", Check.INDEX, () -> x.wish(0));
    }

    private static void vanByOrder() {
        LeftThings x = new LeftThings();
        x.leave(0, 3, 0);
        x.leave(0, 2, 0);
        x.leave(0, 3, 0);
        x.leave(0, 1, 0);
        for (int number = 0; number < 4; number++) {
            x.want(number, 1);
        }
        x.pass(1);
        Check.same("3 of 6", x.where(0), 1);
        Check.same("2 of 3", x.where(1), 1);
        Check.same("3 of 1", x.where(2), 0);
        Check.same("1 of 1", x.where(3), 1);
        Check.same("other wishes stay", x.wish(0), 2);
        Check.same("load there", x.load(1), 6);
        Check.same("load here", x.load(0), 3);
        x.pass(1);
        Check.same("the next evening", x.where(2), 1);
        Check.refuses("no wish is left", Check.INDEX, () -> x.wish(0));
        Check.same("fees go on", x.fees(2), 12);
    }

    private static void vanGoesThroughOnce() {
        LeftThings x = new LeftThings();
        x.setRoom(1, 3);
        x.leave(0, 1, 0);
        x.leave(0, 3, 1);
        x.want(0, 1);
        x.want(1, 2);
        x.pass(1);
        Check.same("no room when its turn was", x.where(0), 0);
        Check.same("taken after it", x.where(1), 2);
        Check.same("wish stays", x.wish(0), 0);
        x.pass(1);
        Check.same("the next evening", x.where(0), 1);
    }

    private static void vanAndRoomMadeOnTheWay() {
        LeftThings x = new LeftThings();
        x.setRoom(1, 3);
        x.setRoom(2, 3);
        x.leave(0, 3, 1);
        x.leave(0, 3, 0);
        x.leave(0, 1, 0);
        x.want(0, 2);
        x.want(1, 1);
        x.want(2, 2);
        x.setVan(30);
        x.pass(1);
        Check.same("taken first", x.where(0), 2);
        Check.same("where it is gone from", x.where(1), 1);
        Check.same("where it is by then", x.where(2), 0);
    }

    private static void vanAndLoans() {
        LeftThings x = new LeftThings();
        x.setVan(3);
        x.leave(0, 3, 0);
        x.leave(0, 3, 0);
        x.want(0, 1);
        x.want(1, 1);
        x.lend(0, 1, 30);
        x.pass(1);
        Check.same("not with a loan", x.where(0), 0);
        Check.same("the loan takes no room of the van", x.where(1), 1);
        Check.same("its wish stays", x.wish(0), 0);
        x.repay(0);
        x.pass(1);
        Check.same("without a loan", x.where(0), 1);
    }
}
