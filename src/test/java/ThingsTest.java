/** Promises 4 to 7: leave, fetch, want, value. */
public final class ThingsTest {
    public static void main(String[] args) {
        leaving();
        leavingOutOfRange();
        leavingWithoutRoom();
        leavingTooMany();
        fetching();
        fetchingRefused();
        wanting();
        wantingRefused();
        valuing();
        valuingRefused();
        Check.finish();
    }

    private static void leaving() {
        LeftThings x = new LeftThings();
        Check.same("first number", x.leave(0, 1, 0), 0);
        Check.same("second number", x.leave(7, 3, 4), 1);
        Check.same("place of the first", x.where(0), 0);
        Check.same("place of the second", x.where(1), 4);
        Check.same("load", x.load(4), 3);
        Check.same("fees at first", x.fees(1), 0);
        Check.same("loan at first", x.loan(1), 0);
        Check.same("worth of size 1", x.value(0, 5), 20);
        Check.same("worth of size 3", x.value(1, 5), 60);
        x.fetch(0);
        Check.same("number after a fetch", x.leave(0, 2, 0), 2);
        Check.same("worth of size 2", x.value(2, 5), 40);
    }

    private static void leavingOutOfRange() {
        LeftThings x = new LeftThings();
        x.setRoom(0, 0);
        Check.refuses("owner -1", Check.ARGUMENT, () -> x.leave(-1, 1, 0));
        Check.refuses("owner 8", Check.ARGUMENT, () -> x.leave(8, 1, 0));
        Check.refuses("size 0", Check.ARGUMENT, () -> x.leave(0, 0, 0));
        Check.refuses("size 4", Check.ARGUMENT, () -> x.leave(0, 4, 0));
        Check.refuses("greatest size", Check.ARGUMENT, () -> x.leave(0, Integer.MAX_VALUE, 0));
        Check.refuses("counter -1", Check.ARGUMENT, () -> x.leave(0, 1, -1));
        Check.refuses("counter 5", Check.ARGUMENT, () -> x.leave(0, 1, 5));
        Check.refuses("right words, but no room", Check.STATE, () -> x.leave(0, 1, 0));
        Check.same("things after refusals", x.things(), 0);
    }

    private static void leavingWithoutRoom() {
        LeftThings x = new LeftThings();
        x.leave(0, 3, 0);
        x.leave(0, 3, 0);
        x.leave(0, 3, 0);
        Check.refuses("2 into 1", Check.STATE, () -> x.leave(0, 2, 0));
        Check.same("1 into 1", x.leave(0, 1, 0), 3);
        Check.refuses("1 into 0", Check.STATE, () -> x.leave(0, 1, 0));
        Check.same("at another counter", x.leave(0, 3, 1), 4);
        x.fetch(0);
        Check.same("where one was fetched", x.leave(0, 3, 0), 5);
    }

    private static void leavingTooMany() {
        LeftThings x = new LeftThings();
        for (int number = 0; number < 24; number++) {
            Check.same("number", x.leave(number % 8, 1, number % 5), number);
        }
        Check.refuses("25th thing", Check.STATE, () -> x.leave(0, 1, 0));
        Check.refuses("25th thing, wrong size", Check.ARGUMENT, () -> x.leave(0, 4, 0));
        x.fetch(0);
        Check.refuses("25th thing after a fetch", Check.STATE, () -> x.leave(0, 1, 0));
        Check.same("things", x.things(), 24);
    }

    private static void fetching() {
        LeftThings x = new LeftThings();
        x.leave(0, 3, 0);
        x.leave(1, 2, 0);
        x.want(1, 2);
        x.want(0, 1);
        x.setVan(0);
        x.pass(2);
        Check.same("fees paid", x.fetch(1), 8);
        Check.same("place", x.where(1), 10);
        Check.same("fees kept", x.fees(1), 8);
        Check.same("taken", x.taken(), 8);
        Check.same("load", x.load(0), 3);
        Check.same("wish of the other", x.wish(0), 0);
        Check.refuses("wish of the fetched", Check.INDEX, () -> x.wish(1));
        Check.same("purse of its owner", x.purse(1), 0);
        x.pass(3);
        Check.same("fees of a fetched thing", x.fees(1), 8);
        Check.same("fees of the other", x.fetch(0), 30);
        Check.same("taken of both", x.taken(), 38);
        Check.same("fees on the first day", x.fetch(x.leave(0, 1, 0)), 0);
    }

    private static void fetchingRefused() {
        LeftThings x = new LeftThings();
        x.leave(0, 3, 0);
        x.leave(0, 1, 0);
        x.want(0, 1);
        x.lend(0, 1, 10);
        Check.refuses("fetch -1", Check.INDEX, () -> x.fetch(-1));
        Check.refuses("fetch 2", Check.INDEX, () -> x.fetch(2));
        Check.refuses("fetch with a loan", Check.STATE, () -> x.fetch(0));
        Check.same("place after refusal", x.where(0), 0);
        Check.same("wish after refusal", x.wish(0), 0);
        x.fetch(1);
        Check.refuses("fetch twice", Check.STATE, () -> x.fetch(1));
        x.doubt(0);
        x.pass(4);
        Check.refuses("fetch a sold thing", Check.STATE, () -> x.fetch(0));
    }

    private static void wanting() {
        LeftThings x = new LeftThings();
        for (int number = 0; number < 3; number++) {
            x.leave(0, 1, 0);
        }
        Check.same("one wish", x.want(2, 1), 1);
        Check.same("two wishes", x.want(0, 1), 2);
        Check.same("a newer wish", x.want(2, 3), 2);
        Check.same("first wish", x.wish(0), 0);
        Check.same("newer wish comes behind", x.wish(1), 2);
        Check.same("the same wish again", x.want(0, 1), 2);
        Check.same("first wish then", x.wish(0), 2);
        x.lend(1, 1, 5);
        Check.same("wish with a loan", x.want(1, 4), 3);
        x.pass(1);
        Check.same("brought by the newer wish", x.where(2), 3);
        Check.same("brought", x.where(0), 1);
        Check.same("not brought with a loan", x.where(1), 0);
        Check.same("wish stays", x.wish(0), 1);
        Check.same("back again", x.want(0, 0), 2);
        Check.same("a wish more", x.want(2, 0), 3);
        x.pass(1);
        Check.same("back at the first counter", x.where(0) + x.where(2), 0);
    }

    private static void wantingRefused() {
        LeftThings x = new LeftThings();
        x.leave(0, 1, 0);
        x.leave(0, 1, 0);
        x.want(0, 1);
        Check.refuses("want -1", Check.INDEX, () -> x.want(-1, 9));
        Check.refuses("want 2", Check.INDEX, () -> x.want(2, 0));
        Check.refuses("at counter -1", Check.ARGUMENT, () -> x.want(0, -1));
        Check.refuses("at counter 5", Check.ARGUMENT, () -> x.want(0, 5));
        Check.refuses("at counter 10, fetched", Check.ARGUMENT, () -> x.want(0, 10));
        Check.refuses("where it is", Check.STATE, () -> x.want(0, 0));
        Check.same("wish after refusals", x.wish(0), 0);
        x.fetch(1);
        Check.refuses("want a fetched thing", Check.STATE, () -> x.want(1, 2));
        Check.refuses("fetched, wrong counter", Check.ARGUMENT, () -> x.want(1, 5));
        x.pass(1);
        Check.same("brought by the wish that stayed", x.where(0), 1);
    }

    private static void valuing() {
        LeftThings x = new LeftThings();
        x.leave(0, 2, 0);
        Check.same("worth at first", x.value(0, 10000), 40);
        Check.same("greatest worth", x.value(0, 0), 10000);
        Check.same("no worth", x.value(0, 30), 0);
        x.lend(0, 1, 15);
        Check.same("worth with a loan", x.value(0, 3), 30);
        Check.same("loan stays", x.loan(0), 15);
    }

    private static void valuingRefused() {
        LeftThings x = new LeftThings();
        x.leave(0, 2, 0);
        Check.refuses("value -1", Check.INDEX, () -> x.value(-1, -1));
        Check.refuses("value 1", Check.INDEX, () -> x.value(1, 5));
        Check.refuses("worth -1", Check.ARGUMENT, () -> x.value(0, -1));
        Check.refuses("worth 10001", Check.ARGUMENT, () -> x.value(0, 10001));
        Check.same("worth after refusals", x.value(0, 40), 40);
        x.fetch(0);
        Check.refuses("fetched, wrong worth", Check.ARGUMENT, () -> x.value(0, -1));
        Check.refuses("value a fetched thing", Check.STATE, () -> x.value(0, 5));
    }
}
