/** Promises 1 to 3: a new object, setRoom, setVan. */
public final class SettingsTest {
    public static void main(String[] args) {
        newObject();
        roomOfCounters();
        roomBelowLoad();
        roomOutOfRange();
        vanRoom();
        vanOutOfRange();
        Check.finish();
    }

    private static void newObject() {
        LeftThings x = new LeftThings();
        Check.same("day of a new object", x.day(), 0);
        Check.same("things of a new object", x.things(), 0);
        Check.same("taken of a new object", x.taken(), 0);
        for (int counter = 0; counter < 5; counter++) {
            Check.same("load of a new counter", x.load(counter), 0);
            Check.same("room of a new counter", x.setRoom(counter, 10), 10);
        }
        for (int person = 0; person < 8; person++) {
            Check.same("purse of a new person", x.purse(person), 0);
        }
        Check.same("room of a new van", x.setVan(6), 6);
        Check.refuses("wish of a new object", Check.INDEX, () -> x.wish(0));
        Check.refuses("thing of a new object", Check.INDEX, () -> x.where(0));
    }

    private static void roomOfCounters() {
        LeftThings x = new LeftThings();
        Check.same("room before", x.setRoom(0, 30), 10);
        Check.same("room set", x.setRoom(0, 0), 30);
        Check.same("room set to none", x.setRoom(0, 7), 0);
        Check.same("room of the last counter", x.setRoom(4, 5), 10);
        Check.same("room of another counter stays", x.setRoom(1, 10), 10);
        x.leave(0, 3, 4);
        x.leave(0, 2, 4);
        Check.refuses("leave at a full counter", Check.STATE, () -> x.leave(0, 1, 4));
    }

    private static void roomBelowLoad() {
        LeftThings x = new LeftThings();
        x.leave(0, 3, 2);
        x.setRoom(2, 1);
        Check.same("load above room stays", x.load(2), 3);
        Check.same("thing above room stays", x.where(0), 2);
        Check.refuses("leave above room", Check.STATE, () -> x.leave(0, 1, 2));
        x.pass(1);
        Check.same("thing above room stays overnight", x.where(0), 2);
    }

    private static void roomOutOfRange() {
        LeftThings x = new LeftThings();
        Check.refuses("counter -1", Check.ARGUMENT, () -> x.setRoom(-1, 5));
        Check.refuses("counter 5", Check.ARGUMENT, () -> x.setRoom(5, 5));
        Check.refuses("least counter", Check.ARGUMENT, () -> x.setRoom(Integer.MIN_VALUE, 5));
        Check.refuses("room -1", Check.ARGUMENT, () -> x.setRoom(0, -1));
        Check.refuses("room 31", Check.ARGUMENT, () -> x.setRoom(0, 31));
        Check.refuses("greatest room", Check.ARGUMENT, () -> x.setRoom(0, Integer.MAX_VALUE));
        Check.same("room after refusals", x.setRoom(0, 10), 10);
    }

    private static void vanRoom() {
        LeftThings x = new LeftThings();
        x.leave(0, 3, 0);
        x.want(0, 1);
        Check.same("van before", x.setVan(2), 6);
        x.pass(1);
        Check.same("too large for the van", x.where(0), 0);
        Check.same("van set", x.setVan(3), 2);
        x.pass(1);
        Check.same("just fits into the van", x.where(0), 1);
        Check.same("van of 0 and 30", x.setVan(0) * 100 + x.setVan(30), 300);
        Check.same("van of 30", x.setVan(6), 30);
    }

    private static void vanOutOfRange() {
        LeftThings x = new LeftThings();
        Check.refuses("van -1", Check.ARGUMENT, () -> x.setVan(-1));
        Check.refuses("van 31", Check.ARGUMENT, () -> x.setVan(31));
        Check.refuses("least van", Check.ARGUMENT, () -> x.setVan(Integer.MIN_VALUE));
        Check.same("van after refusals", x.setVan(6), 6);
    }
}
