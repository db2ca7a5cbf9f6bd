/** The boundaries of promises 1 to 3, and of the terms behind them, a test for each sentence. */
public final class SettingsBoundsTest {
    public static void main(String[] args) {
        beginsOnDay0();
        beginsWithoutThings();
        beginsAloneEachTime();
        roomAtFirst();
        vanAtFirst();
        purseAtFirst();
        lastPromisedCall();
        counterOfSetRoom();
        roomOfSetRoom();
        roomOf0();
        roomOf30();
        roomBefore();
        thingsThatAreThereStay();
        roomOfSetVan();
        vanOf0();
        vanOf30();
        vanBefore();
        Check.finish();
    }

    private static void beginsOnDay0() {
        Check.sentence("Promise 1", "Begins on day 0");
        LeftThings x = new LeftThings();
        Check.same("day", x.day(), 0);
        x.pass(1);
        Check.same("day after the first", x.day(), 1);
    }

    private static void beginsWithoutThings() {
        Check.sentence("Promise 1", "without things");
        LeftThings x = new LeftThings();
        Check.same("things", x.things(), 0);
        Check.same("taken", x.taken(), 0);
        Check.refuses("where", Check.INDEX, () -> x.where(0));
        Check.refuses("whereOn", Check.INDEX, () -> x.whereOn(0, 0));
        Check.refuses("fees", Check.INDEX, () -> x.fees(0));
        Check.refuses("loan", Check.INDEX, () -> x.loan(0));
        Check.refuses("wish", Check.INDEX, () -> x.wish(0));
        Check.refuses("fetch", Check.INDEX, () -> x.fetch(0));
        Check.refuses("want", Check.INDEX, () -> x.want(0, 0));
        Check.refuses("value", Check.INDEX, () -> x.value(0, 0));
        Check.refuses("lend", Check.INDEX, () -> x.lend(0, 0, 1));
        Check.refuses("repay", Check.INDEX, () -> x.repay(0));
        Check.refuses("doubt", Check.INDEX, () -> x.doubt(0));
        Check.same("sold on an empty day", x.pass(1), 0);
    }

    private static void beginsAloneEachTime() {
        Check.sentence("Promise 1", "begins on day 0 without things, whatever other objects hold");
        LeftThings other = Towns.busy();
        LeftThings x = new LeftThings();
        Check.same("day", x.day(), 0);
        Check.same("things", x.things(), 0);
        Check.same("purse", x.purse(0), 0);
        Check.same("room", x.setRoom(3, 10), 10);
        Check.same("van", x.setVan(6), 6);
        Check.same("things of the other", other.things(), 6);
    }

    private static void roomAtFirst() {
        Check.sentence("Promise 1", "each with room for a sum of sizes, 10 at first");
        LeftThings x = new LeftThings();
        for (int counter = 0; counter < 5; counter++) {
            int at = counter;
            for (int times = 0; times < 3; times++) {
                x.leave(0, 3, at);
            }
            Check.refuses("11 at " + at, Check.STATE, () -> x.leave(0, 2, at));
            x.leave(0, 1, at);
            Check.same("10 at " + at, x.load(at), 10);
            Check.refuses("11 at full " + at, Check.STATE, () -> x.leave(0, 1, at));
        }
    }

    private static void vanAtFirst() {
        Check.sentence("Promise 1", "the van, which has room for 6 at first");
        LeftThings x = new LeftThings();
        x.leave(0, 3, 0);
        x.leave(0, 3, 0);
        x.leave(0, 1, 0);
        for (int number = 0; number < 3; number++) {
            x.want(number, 1);
        }
        x.pass(1);
        Check.same("3 of 6", x.where(0), 1);
        Check.same("6 of 6", x.where(1), 1);
        Check.same("7 of 6", x.where(2), 0);
    }

    private static void purseAtFirst() {
        Check.sentence("Promise 1", "persons are 0 to 7, each with a purse, 0 at first");
        LeftThings x = new LeftThings();
        for (int person = 0; person < 8; person++) {
            Check.same("purse of " + person, x.purse(person), 0);
        }
    }

    private static void lastPromisedCall() {
        Check.sentence("What it is", "an object is used for at most 512 calls");
        LeftThings x = new LeftThings();
        x.leave(0, 1, 0);
        for (int calls = 1; calls < 510; calls++) {
            x.want(0, 1 + calls % 4);
        }
        Check.same("call 511", x.pass(1), 0);
        Check.same("call 512", x.where(0), 2);
    }

    private static void counterOfSetRoom() {
        Check.sentence("Promise 2", "counter: 0 to 4");
        LeftThings x = new LeftThings();
        Check.refuses("counter -1", Check.ARGUMENT, () -> x.setRoom(-1, 9));
        Check.refuses("counter 5", Check.ARGUMENT, () -> x.setRoom(5, 9));
        Check.refuses("least counter", Check.ARGUMENT, () -> x.setRoom(Integer.MIN_VALUE, 9));
        Check.refuses("greatest counter", Check.ARGUMENT, () -> x.setRoom(Integer.MAX_VALUE, 9));
        for (int counter = 0; counter < 5; counter++) {
            Check.same("counter " + counter, x.setRoom(counter, 9), 10);
        }
    }

    private static void roomOfSetRoom() {
        Check.sentence("Promise 2", "room: 0 to 30");
        LeftThings x = new LeftThings();
        Check.refuses("room -1", Check.ARGUMENT, () -> x.setRoom(0, -1));
        Check.refuses("room 31", Check.ARGUMENT, () -> x.setRoom(0, 31));
        Check.refuses("least room", Check.ARGUMENT, () -> x.setRoom(0, Integer.MIN_VALUE));
        Check.refuses("greatest room", Check.ARGUMENT, () -> x.setRoom(0, Integer.MAX_VALUE));
        Check.same("room 0", x.setRoom(0, 0), 10);
        Check.same("room 30", x.setRoom(0, 30), 0);
        Check.same("room 30 kept", x.setRoom(0, 1), 30);
    }

    private static void roomOf0() {
        Check.sentence("Promise 2", "room: 0, nothing finds room");
        LeftThings x = new LeftThings();
        x.leave(0, 1, 1);
        x.want(0, 0);
        x.setRoom(0, 0);
        Check.refuses("leave", Check.STATE, () -> x.leave(0, 1, 0));
        x.pass(1);
        Check.same("not brought", x.where(0), 1);
        x.setRoom(0, 1);
        x.pass(1);
        Check.same("brought to a room of 1", x.where(0), 0);
    }

    private static void roomOf30() {
        Check.sentence("Promise 2", "room: 30, as many sizes find room");
        LeftThings x = new LeftThings();
        x.setRoom(4, 30);
        for (int number = 0; number < 10; number++) {
            Check.same("3 more", x.leave(0, 3, 4), number);
        }
        Check.same("load", x.load(4), 30);
        Check.refuses("1 more", Check.STATE, () -> x.leave(0, 1, 4));
    }

    private static void roomBefore() {
        Check.sentence("Promise 2", "Returns the room before");
        LeftThings x = new LeftThings();
        Check.same("first", x.setRoom(2, 4), 10);
        Check.same("second", x.setRoom(2, 4), 4);
        Check.same("same again", x.setRoom(2, 20), 4);
        Check.same("of its own", x.setRoom(1, 20), 10);
        Check.same("last", x.setRoom(2, 10), 20);
    }

    private static void thingsThatAreThereStay() {
        Check.sentence("Promise 2", "things that are there stay");
        LeftThings x = new LeftThings();
        x.leave(0, 3, 2);
        x.leave(0, 2, 2);
        x.setRoom(2, 0);
        Check.same("load above room", x.load(2), 5);
        x.pass(1);
        Check.same("first overnight", x.where(0), 2);
        Check.same("second overnight", x.where(1), 2);
        x.setRoom(2, 5);
        Check.refuses("leave where it is just full", Check.STATE, () -> x.leave(0, 1, 2));
        x.setRoom(2, 3);
        x.fetch(1);
        Check.refuses("leave where it is just full then", Check.STATE, () -> x.leave(0, 1, 2));
        x.setRoom(2, 4);
        Check.same("leave where there is room for 1", x.leave(0, 1, 2), 2);
    }

    private static void roomOfSetVan() {
        Check.sentence("Promise 3", "room: 0 to 30");
        LeftThings x = new LeftThings();
        Check.refuses("room -1", Check.ARGUMENT, () -> x.setVan(-1));
        Check.refuses("room 31", Check.ARGUMENT, () -> x.setVan(31));
        Check.refuses("least room", Check.ARGUMENT, () -> x.setVan(Integer.MIN_VALUE));
        Check.refuses("greatest room", Check.ARGUMENT, () -> x.setVan(Integer.MAX_VALUE));
        Check.same("room 0", x.setVan(0), 6);
        Check.same("room 30", x.setVan(30), 0);
        Check.same("room 30 kept", x.setVan(1), 30);
    }

    private static void vanOf0() {
        Check.sentence("Promise 3", "room: 0, nothing is taken");
        LeftThings x = Towns.withOne();
        x.want(0, 1);
        x.setVan(0);
        x.pass(2);
        Check.same("not brought", x.where(0), 0);
        Check.same("its wish stays", x.wish(0), 0);
        x.setVan(1);
        x.pass(1);
        Check.same("brought by a van of 1", x.where(0), 1);
    }

    private static void vanOf30() {
        Check.sentence("Promise 3", "room: 30, as many sizes are taken");
        LeftThings x = new LeftThings();
        x.setVan(30);
        x.setRoom(0, 30);
        x.setRoom(1, 30);
        for (int number = 0; number < 10; number++) {
            x.leave(0, 3, 0);
            x.want(number, 1);
        }
        x.leave(0, 1, 2);
        x.want(10, 3);
        x.pass(1);
        Check.same("all of 30", x.load(1), 30);
        Check.same("1 more", x.where(10), 2);
    }

    private static void vanBefore() {
        Check.sentence("Promise 3", "Returns the room before");
        LeftThings x = new LeftThings();
        Check.same("first", x.setVan(9), 6);
        Check.same("second", x.setVan(9), 9);
        Check.same("same again", x.setVan(6), 9);
        x.leave(0, 3, 0);
        x.want(0, 1);
        x.pass(1);
        Check.same("after a drive", x.setVan(6), 6);
    }
}
