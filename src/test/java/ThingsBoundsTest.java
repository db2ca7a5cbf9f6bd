/** The boundaries of promises 4 to 7, and of the terms behind them, a test for each sentence. */
public final class ThingsBoundsTest {
    private static final int[] NUMBERS_OF_NONE = {-1, 1, 23, 24, Integer.MIN_VALUE, Integer.MAX_VALUE};

    public static void main(String[] args) {
        ownerOfLeave();
        sizeOfLeave();
        counterOfLeave();
        numberOfLeave();
        noRoomForLeave();
        roomMadeForLeave();
        thing25();
        thing25AfterOthersWent();
        worthAtFirst();
        noSuchThingToFetch();
        fetchAwayFromCounters();
        fetchWithLoan();
        feesThatArePaid();
        wishOfFetched();
        counterOfWant();
        wishesThere();
        allWishes();
        newerWish();
        noSuchThingToWant();
        wantAwayFromCounters();
        wantAtThisOne();
        wantAtThisOneOnceBrought();
        wantWithoutRoomOrWithLoan();
        worthOfValue();
        worthBefore();
        noSuchThingToValue();
        valueAwayFromCounters();
        Check.finish();
    }

    private static void ownerOfLeave() {
        Check.sentence("Promise 4", "owner: 0 to 7");
        LeftThings x = new LeftThings();
        Check.refuses("owner -1", Check.ARGUMENT, () -> x.leave(-1, 1, 0));
        Check.refuses("owner 8", Check.ARGUMENT, () -> x.leave(8, 1, 0));
        Check.refuses("least owner", Check.ARGUMENT, () -> x.leave(Integer.MIN_VALUE, 1, 0));
        Check.refuses("greatest owner", Check.ARGUMENT, () -> x.leave(Integer.MAX_VALUE, 1, 0));
        for (int owner = 0; owner < 8; owner++) {
            int thing = x.leave(owner, 1, owner / 2);
            x.lend(thing, owner == 0 ? 7 : 0, 1 + owner);
            Check.same("purse of owner " + owner, x.purse(owner), 1 + owner);
        }
    }

    private static void sizeOfLeave() {
        Check.sentence("Promise 4", "size: 1 to 3");
        LeftThings x = new LeftThings();
        Check.refuses("size 0", Check.ARGUMENT, () -> x.leave(0, 0, 0));
        Check.refuses("size 4", Check.ARGUMENT, () -> x.leave(0, 4, 0));
        Check.refuses("size -1", Check.ARGUMENT, () -> x.leave(0, -1, 0));
        Check.refuses("least size", Check.ARGUMENT, () -> x.leave(0, Integer.MIN_VALUE, 0));
        Check.refuses("greatest size", Check.ARGUMENT, () -> x.leave(0, Integer.MAX_VALUE, 0));
        for (int size = 1; size <= 3; size++) {
            x.leave(0, size, size);
            Check.same("load of size " + size, x.load(size), size);
        }
    }

    private static void counterOfLeave() {
        Check.sentence("Promise 4", "counter: 0 to 4");
        LeftThings x = new LeftThings();
        Check.refuses("counter -1", Check.ARGUMENT, () -> x.leave(0, 1, -1));
        Check.refuses("counter 5", Check.ARGUMENT, () -> x.leave(0, 1, 5));
        Check.refuses("counter 10", Check.ARGUMENT, () -> x.leave(0, 1, 10));
        Check.refuses("least counter", Check.ARGUMENT, () -> x.leave(0, 1, Integer.MIN_VALUE));
        Check.refuses("greatest counter", Check.ARGUMENT, () -> x.leave(0, 1, Integer.MAX_VALUE));
        for (int counter = 0; counter < 5; counter++) {
            Check.same("place", x.where(x.leave(0, 1, counter)), counter);
        }
    }

    private static void numberOfLeave() {
        Check.sentence("Promise 4", "things are numbered from 0 as they are left");
        LeftThings x = Towns.withSold();
        Check.same("after a sold thing", x.leave(0, 1, 4), 1);
        x.fetch(1);
        Check.same("after a fetched thing", x.leave(0, 1, 0), 2);
        Check.refuses("one that is refused", Check.ARGUMENT, () -> x.leave(0, 1, 5));
        Check.same("after one that was refused", x.leave(0, 1, 1), 3);
    }

    private static void noRoomForLeave() {
        Check.sentence("Promise 4", "if the counter has no room for it");
        for (int size = 1; size <= 3; size++) {
            int of = size;
            LeftThings x = new LeftThings();
            x.setRoom(0, of - 1);
            Check.refuses("size " + of + " into 1 less", Check.STATE, () -> x.leave(0, of, 0));
            x.setRoom(0, of);
            Check.same("size " + of + " into just as much", x.leave(0, of, 0), 0);
            Check.refuses("1 more", Check.STATE, () -> x.leave(0, 1, 0));
        }
    }

    private static void roomMadeForLeave() {
        Check.sentence("Promise 4", "room that was made: by fetching, by selling, by the van");
        LeftThings x = new LeftThings();
        x.setRoom(0, 3);
        x.leave(0, 3, 0);
        x.fetch(0);
        Check.same("after fetching", x.leave(0, 3, 0), 1);
        x.want(1, 1);
        Check.refuses("before the van", Check.STATE, () -> x.leave(0, 1, 0));
        x.pass(1);
        Check.same("after the van", x.leave(0, 3, 0), 2);
        x.pass(29);
        Check.refuses("before selling", Check.STATE, () -> x.leave(0, 1, 0));
        x.pass(1);
        Check.same("after selling", x.leave(0, 3, 0), 3);
    }

    private static void thing25() {
        Check.sentence("Promise 4", "or there were 24 things");
        LeftThings x = Towns.withThings(23);
        Check.same("the 24th", x.leave(0, 1, 4), 23);
        Check.refuses("the 25th, with room", Check.STATE, () -> x.leave(0, 1, 4));
        Check.same("things", x.things(), 24);
        Check.same("load", x.load(4), 5);
    }

    private static void thing25AfterOthersWent() {
        Check.sentence("Promise 4", "there were 24 things, fetched and sold ones too");
        LeftThings x = Towns.withThings(24);
        x.fetch(23);
        Check.refuses("after one was fetched", Check.STATE, () -> x.leave(0, 1, 3));
        Check.same("sold", x.pass(30), 23);
        Check.refuses("after all were sold", Check.STATE, () -> x.leave(0, 1, 3));
    }

    private static void worthAtFirst() {
        Check.sentence("Promise 4", "a worth, 20 times its size at first");
        LeftThings x = new LeftThings();
        for (int size = 1; size <= 3; size++) {
            int thing = x.leave(0, size, 0);
            int most = 10 * size;
            Check.refuses("above half, size " + size, Check.STATE, () -> x.lend(thing, 1, most + 1));
            x.lend(thing, 1, most);
            Check.same("worth of size " + size, x.value(thing, 0), 20 * size);
        }
    }

    private static void noSuchThingToFetch() {
        Check.sentence("Promise 5", "if there is no such thing");
        LeftThings x = Towns.withOne();
        for (int number : NUMBERS_OF_NONE) {
            Check.refuses("thing " + number, Check.INDEX, () -> x.fetch(number));
        }
        Check.same("the last there is", x.fetch(0), 0);
    }

    private static void fetchAwayFromCounters() {
        Check.sentence("Promise 5", "if it is not at a counter");
        LeftThings fetched = Towns.withFetched();
        Check.refuses("fetched", Check.STATE, () -> fetched.fetch(0));
        Check.same("taken once", fetched.taken(), 0);
        LeftThings sold = Towns.withSold();
        Check.refuses("sold", Check.STATE, () -> sold.fetch(0));
        Check.same("sold still", sold.where(0), 11);
    }

    private static void fetchWithLoan() {
        Check.sentence("Promise 5", "or has a loan");
        LeftThings x = Towns.withLoan();
        Check.refuses("with a loan", Check.STATE, () -> x.fetch(0));
        x.doubt(0);
        Check.refuses("with a called loan", Check.STATE, () -> x.fetch(0));
        x.repay(0);
        Check.same("repaid", x.fetch(0), 0);
        Check.same("fetched", x.where(0), 10);
    }

    private static void feesThatArePaid() {
        Check.sentence("Promise 5", "Returns the fees that are paid");
        LeftThings x = new LeftThings();
        x.leave(0, 3, 0);
        x.leave(1, 3, 1);
        Check.same("on the day of leaving", x.fetch(0), 0);
        x.pass(1);
        Check.same("after a day", x.fetch(1), 6);
        x.leave(2, 2, 2);
        x.value(2, 0);
        x.pass(29);
        Check.same("above its worth", x.fetch(2), 29 * 4);
        Check.same("taken", x.taken(), 6 + 29 * 4);
        Check.same("from no purse", x.purse(2), 0);
    }

    private static void wishOfFetched() {
        Check.sentence("Promise 5", "its wish is gone");
        for (int fetched = 0; fetched < 3; fetched++) {
            LeftThings x = Towns.withThings(3);
            for (int number = 0; number < 3; number++) {
                x.want(number, 4);
            }
            x.fetch(fetched);
            Check.same("first of two, without " + fetched, x.wish(0), fetched == 0 ? 1 : 0);
            Check.same("last of two, without " + fetched, x.wish(1), fetched == 2 ? 1 : 2);
            Check.refuses("a third", Check.INDEX, () -> x.wish(2));
            x.pass(1);
            Check.same("fetched for good", x.where(fetched), 10);
        }
    }

    private static void counterOfWant() {
        Check.sentence("Promise 6", "counter: 0 to 4");
        LeftThings x = new LeftThings();
        x.leave(0, 1, 2);
        Check.refuses("counter -1", Check.ARGUMENT, () -> x.want(0, -1));
        Check.refuses("counter 5", Check.ARGUMENT, () -> x.want(0, 5));
        Check.refuses("least counter", Check.ARGUMENT, () -> x.want(0, Integer.MIN_VALUE));
        Check.refuses("greatest counter", Check.ARGUMENT, () -> x.want(0, Integer.MAX_VALUE));
        Check.refuses("no wish by then", Check.INDEX, () -> x.wish(0));
        x.want(0, 0);
        x.pass(1);
        Check.same("counter 0", x.where(0), 0);
        x.want(0, 4);
        x.pass(1);
        Check.same("counter 4", x.where(0), 4);
    }

    private static void wishesThere() {
        Check.sentence("Promise 6", "Returns how many wishes there are then");
        LeftThings x = Towns.withThings(3);
        Check.same("the first", x.want(0, 4), 1);
        Check.same("the second", x.want(1, 4), 2);
        Check.same("a newer one of the first", x.want(0, 3), 2);
        x.pass(1);
        Check.same("after they were met", x.want(2, 4), 1);
        Check.same("a newer one of the only one", x.want(2, 0), 1);
    }

    private static void allWishes() {
        Check.sentence("Promise 6", "all things may be wanted");
        LeftThings x = Towns.withThings(24);
        for (int number = 0; number < 24; number++) {
            Check.same("wishes", x.want(number, (number + 1) % 5), number + 1);
        }
        Check.same("a newer one", x.want(0, 3), 24);
        Check.same("the last place", x.wish(23), 0);
        Check.refuses("beyond it", Check.INDEX, () -> x.wish(24));
    }

    private static void newerWish() {
        Check.sentence("Promise 6", "a newer wish takes the place of an older one, and comes behind all others");
        LeftThings x = Towns.withThings(3);
        x.want(0, 4);
        x.want(1, 4);
        x.want(2, 4);
        x.want(0, 3);
        Check.same("first", x.wish(0), 1);
        Check.same("last", x.wish(2), 0);
        x.want(0, 4);
        Check.same("the last again", x.wish(2), 0);
        x.setVan(2);
        x.pass(1);
        Check.same("not behind all others", x.where(1) * 10 + x.where(2), 44);
        Check.same("behind all others", x.where(0), 0);
        x.want(0, 2);
        x.pass(1);
        Check.same("where it is wanted last", x.where(0), 2);
    }

    private static void noSuchThingToWant() {
        Check.sentence("Promise 6", "if there is no such thing");
        LeftThings x = Towns.withOne();
        for (int number : NUMBERS_OF_NONE) {
            Check.refuses("thing " + number, Check.INDEX, () -> x.want(number, 1));
            Check.refuses("thing " + number + ", counter 5", Check.INDEX, () -> x.want(number, 5));
        }
        Check.same("the last there is", x.want(0, 1), 1);
    }

    private static void wantAwayFromCounters() {
        Check.sentence("Promise 6", "if it is not at a counter");
        LeftThings fetched = Towns.withFetched();
        LeftThings sold = Towns.withSold();
        for (int counter = 0; counter < 5; counter++) {
            int at = counter;
            Check.refuses("fetched, at " + at, Check.STATE, () -> fetched.want(0, at));
            Check.refuses("sold, at " + at, Check.STATE, () -> sold.want(0, at));
        }
        Check.refuses("wish of a fetched thing", Check.INDEX, () -> fetched.wish(0));
        Check.refuses("wish of a sold thing", Check.INDEX, () -> sold.wish(0));
    }

    private static void wantAtThisOne() {
        Check.sentence("Promise 6", "or is at this one");
        for (int counter = 0; counter < 5; counter++) {
            int at = counter;
            LeftThings x = new LeftThings();
            x.leave(0, 1, at);
            Check.refuses("at " + at, Check.STATE, () -> x.want(0, at));
            Check.refuses("no wish by then", Check.INDEX, () -> x.wish(0));
            Check.same("at the next", x.want(0, (at + 1) % 5), 1);
            Check.refuses("at " + at + ", wanted elsewhere", Check.STATE, () -> x.want(0, at));
            x.pass(1);
            Check.same("the older wish stayed", x.where(0), (at + 1) % 5);
        }
    }

    private static void wantAtThisOneOnceBrought() {
        Check.sentence("Promise 6", "or is at this one, where the van brought it");
        LeftThings x = Towns.withOne();
        x.want(0, 1);
        x.pass(1);
        Check.refuses("where it is now", Check.STATE, () -> x.want(0, 1));
        Check.same("where it was", x.want(0, 0), 1);
    }

    private static void wantWithoutRoomOrWithLoan() {
        Check.sentence("Promise 6", "only what it names is refused");
        LeftThings x = Towns.withLoan();
        x.setRoom(1, 0);
        x.setVan(0);
        Check.same("with a loan, no room and no van", x.want(0, 1), 1);
        x.doubt(0);
        Check.same("with a called loan", x.want(0, 2), 1);
    }

    private static void worthOfValue() {
        Check.sentence("Promise 7", "worth: 0 to 10000");
        LeftThings x = Towns.withOne();
        Check.refuses("worth -1", Check.ARGUMENT, () -> x.value(0, -1));
        Check.refuses("worth 10001", Check.ARGUMENT, () -> x.value(0, 10001));
        Check.refuses("least worth", Check.ARGUMENT, () -> x.value(0, Integer.MIN_VALUE));
        Check.refuses("greatest worth", Check.ARGUMENT, () -> x.value(0, Integer.MAX_VALUE));
        Check.same("worth 0", x.value(0, 0), 20);
        Check.same("worth 10000", x.value(0, 10000), 0);
        Check.same("worth 10000 kept", x.value(0, 1), 10000);
    }

    private static void worthBefore() {
        Check.sentence("Promise 7", "Returns the worth before");
        LeftThings x = Towns.withThings(2);
        Check.same("first", x.value(1, 7), 20);
        Check.same("second", x.value(1, 7), 7);
        Check.same("same again", x.value(1, 8), 7);
        x.pass(1);
        Check.same("after a day", x.value(1, 9), 8);
        Check.same("of another thing", x.value(0, 1), 20);
    }

    private static void noSuchThingToValue() {
        Check.sentence("Promise 7", "if there is no such thing");
        LeftThings x = Towns.withOne();
        for (int number : NUMBERS_OF_NONE) {
            Check.refuses("thing " + number, Check.INDEX, () -> x.value(number, 1));
            Check.refuses("thing " + number + ", worth -1", Check.INDEX, () -> x.value(number, -1));
        }
        Check.same("the last there is", x.value(0, 1), 20);
    }

    private static void valueAwayFromCounters() {
        Check.sentence("Promise 7", "if it is not at a counter");
        LeftThings fetched = Towns.withFetched();
        LeftThings sold = Towns.withSold();
        Check.refuses("fetched", Check.STATE, () -> fetched.value(0, 5));
        Check.refuses("sold", Check.STATE, () -> sold.value(0, 5));
        LeftThings x = Towns.withLoan();
        x.doubt(0);
        Check.same("at a counter, with a called loan", x.value(0, 0), 20);
    }
}
