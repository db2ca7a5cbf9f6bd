import java.util.function.Consumer;
import java.util.function.Supplier;

/**
 * "When a call throws, nothing has changed; of several exceptions it is the first one of the throws
 * clause": each call that is refused, on each of its grounds, and on two grounds at once, beside a
 * twin that was spared it.
 */
public final class RefusalsTest {
    private static final int LEAST = Integer.MIN_VALUE;
    private static final int GREATEST = Integer.MAX_VALUE;

    public static void main(String[] args) {
        settings();
        leaving();
        leavingTooMany();
        fetching();
        wanting();
        valuing();
        lending();
        repayingAndDoubting();
        passing();
        passingTooFar();
        asking();
        Check.finish();
    }

    private static void refused(String ground, Class<?> due, Consumer<LeftThings> call) {
        refusedIn(Towns::busy, ground, due, call);
    }

    private static void refusedIn(Supplier<LeftThings> town, String ground, Class<?> due,
            Consumer<LeftThings> call) {
        LeftThings x = town.get();
        Check.refuses(ground, due, () -> call.accept(x));
        String told = Story.of(x);
        String twin = Story.of(town.get());
        Check.holds(ground + ": all as it was, " + twin + "\nbut it tells " + told + "\n", told.equals(twin));
    }

    private static void settings() {
        Check.sentence("Promise 2", "if counter or room is out of range");
        refused("counter", Check.ARGUMENT, x -> x.setRoom(-1, 3));
        refused("counter above", Check.ARGUMENT, x -> x.setRoom(5, 3));
        refused("room", Check.ARGUMENT, x -> x.setRoom(0, -1));
        refused("room above", Check.ARGUMENT, x -> x.setRoom(4, 31));
        refused("counter and room", Check.ARGUMENT, x -> x.setRoom(LEAST, GREATEST));
        Check.sentence("Promise 3", "if room is out of range");
        refused("room", Check.ARGUMENT, x -> x.setVan(-1));
        refused("room above", Check.ARGUMENT, x -> x.setVan(31));
        refused("greatest room", Check.ARGUMENT, x -> x.setVan(GREATEST));
    }

    private static void leaving() {
        Check.sentence("Promise 4", "if owner, size or counter is out of range");
        refused("owner", Check.ARGUMENT, x -> x.leave(-1, 1, 0));
        refused("owner above", Check.ARGUMENT, x -> x.leave(8, 1, 0));
        refused("size", Check.ARGUMENT, x -> x.leave(0, 0, 0));
        refused("size above", Check.ARGUMENT, x -> x.leave(0, 4, 0));
        refused("counter", Check.ARGUMENT, x -> x.leave(0, 1, -1));
        refused("counter above", Check.ARGUMENT, x -> x.leave(0, 1, 5));
        refused("all three", Check.ARGUMENT, x -> x.leave(LEAST, GREATEST, GREATEST));
        Check.sentence("Promise 4", "if the counter has no room for it");
        refused("no room", Check.STATE, x -> x.leave(0, 1, 3));
        Check.sentence("Promise 4", "of several exceptions it is the first one");
        refused("owner, and no room", Check.ARGUMENT, x -> x.leave(8, 1, 3));
        refused("size, and no room", Check.ARGUMENT, x -> x.leave(0, 4, 3));
    }

    private static void leavingTooMany() {
        Supplier<LeftThings> full = () -> Towns.withThings(24);
        Check.sentence("Promise 4", "or there were 24 things");
        refusedIn(full, "a 25th thing", Check.STATE, x -> x.leave(0, 1, 0));
        Check.sentence("Promise 4", "of several exceptions it is the first one");
        refusedIn(full, "a 25th thing, owner", Check.ARGUMENT, x -> x.leave(-1, 1, 0));
        refusedIn(full, "a 25th thing, size", Check.ARGUMENT, x -> x.leave(0, 0, 0));
        refusedIn(full, "a 25th thing, counter", Check.ARGUMENT, x -> x.leave(0, 1, 5));
    }

    private static void fetching() {
        Check.sentence("Promise 5", "if there is no such thing");
        refused("thing -1", Check.INDEX, x -> x.fetch(-1));
        refused("thing 6 of 6", Check.INDEX, x -> x.fetch(6));
        refused("least thing", Check.INDEX, x -> x.fetch(LEAST));
        Check.sentence("Promise 5", "if it is not at a counter, or has a loan");
        refused("sold", Check.STATE, x -> x.fetch(0));
        refused("fetched", Check.STATE, x -> x.fetch(1));
        refused("called loan", Check.STATE, x -> x.fetch(3));
        refused("loan", Check.STATE, x -> x.fetch(4));
    }

    private static void wanting() {
        Check.sentence("Promise 6", "if there is no such thing");
        refused("thing -1", Check.INDEX, x -> x.want(-1, 0));
        refused("thing 6 of 6", Check.INDEX, x -> x.want(6, 0));
        Check.sentence("Promise 6", "if counter is out of range");
        refused("counter", Check.ARGUMENT, x -> x.want(2, -1));
        refused("counter above", Check.ARGUMENT, x -> x.want(2, 5));
        Check.sentence("Promise 6", "if it is not at a counter, or is at this one");
        refused("sold", Check.STATE, x -> x.want(0, 1));
        refused("fetched", Check.STATE, x -> x.want(1, 1));
        refused("at this one, with a wish", Check.STATE, x -> x.want(2, 1));
        refused("at this one, with a loan", Check.STATE, x -> x.want(4, 2));
        Check.sentence("Promise 6", "of several exceptions it is the first one");
        refused("thing and counter", Check.INDEX, x -> x.want(6, 5));
        refused("counter, sold", Check.ARGUMENT, x -> x.want(0, 5));
        refused("counter, fetched", Check.ARGUMENT, x -> x.want(1, -1));
        refused("where the sold are", Check.ARGUMENT, x -> x.want(0, 11));
        refused("where the fetched are", Check.ARGUMENT, x -> x.want(1, 10));
    }

    private static void valuing() {
        Check.sentence("Promise 7", "if there is no such thing");
        refused("thing -1", Check.INDEX, x -> x.value(-1, 5));
        refused("thing 6 of 6", Check.INDEX, x -> x.value(6, 5));
        Check.sentence("Promise 7", "if worth is out of range");
        refused("worth", Check.ARGUMENT, x -> x.value(2, -1));
        refused("worth above", Check.ARGUMENT, x -> x.value(2, 10001));
        Check.sentence("Promise 7", "if it is not at a counter");
        refused("sold", Check.STATE, x -> x.value(0, 5));
        refused("fetched", Check.STATE, x -> x.value(1, 5));
        Check.sentence("Promise 7", "of several exceptions it is the first one");
        refused("thing and worth", Check.INDEX, x -> x.value(6, 10001));
        refused("worth, sold", Check.ARGUMENT, x -> x.value(0, 10001));
        refused("worth, fetched", Check.ARGUMENT, x -> x.value(1, -1));
    }

    private static void lending() {
        Check.sentence("Promise 8", "if there is no such thing");
        refused("thing -1", Check.INDEX, x -> x.lend(-1, 1, 1));
        refused("thing 6 of 6", Check.INDEX, x -> x.lend(6, 1, 1));
        Check.sentence("Promise 8", "if lender or sum is out of range");
        refused("lender", Check.ARGUMENT, x -> x.lend(2, -1, 1));
        refused("lender above", Check.ARGUMENT, x -> x.lend(2, 8, 1));
        refused("sum", Check.ARGUMENT, x -> x.lend(2, 1, 0));
        refused("sum above", Check.ARGUMENT, x -> x.lend(2, 1, 5001));
        Check.sentence("Promise 8", "if it is not at a counter, the lender is its owner, it has a loan,"
                + " or sum is above half of its worth");
        refused("sold", Check.STATE, x -> x.lend(0, 1, 1));
        refused("fetched", Check.STATE, x -> x.lend(1, 2, 1));
        refused("owner", Check.STATE, x -> x.lend(2, 2, 1));
        refused("called loan", Check.STATE, x -> x.lend(3, 4, 1));
        refused("loan", Check.STATE, x -> x.lend(4, 1, 1));
        refused("above half", Check.STATE, x -> x.lend(2, 1, 31));
        Check.sentence("Promise 8", "of several exceptions it is the first one");
        refused("thing, lender and sum", Check.INDEX, x -> x.lend(6, 8, 0));
        refused("lender, sold", Check.ARGUMENT, x -> x.lend(0, 8, 1));
        refused("sum, fetched", Check.ARGUMENT, x -> x.lend(1, 2, 0));
        refused("sum, owner", Check.ARGUMENT, x -> x.lend(2, 2, 5001));
        refused("lender, loan", Check.ARGUMENT, x -> x.lend(4, -1, 1));
        refused("sum, above half", Check.ARGUMENT, x -> x.lend(2, 1, GREATEST));
    }

    private static void repayingAndDoubting() {
        Check.sentence("Promise 9", "if there is no such thing");
        refused("thing -1", Check.INDEX, x -> x.repay(-1));
        refused("thing 6 of 6", Check.INDEX, x -> x.repay(6));
        Check.sentence("Promise 9", "if it has no loan");
        refused("sold", Check.STATE, x -> x.repay(0));
        refused("fetched", Check.STATE, x -> x.repay(1));
        refused("no loan", Check.STATE, x -> x.repay(2));
        Check.sentence("Promise 10", "if there is no such thing");
        refused("thing -1", Check.INDEX, x -> x.doubt(-1));
        refused("thing 6 of 6", Check.INDEX, x -> x.doubt(6));
        Check.sentence("Promise 10", "if it has no loan, or that was doubted");
        refused("sold", Check.STATE, x -> x.doubt(0));
        refused("fetched", Check.STATE, x -> x.doubt(1));
        refused("no loan", Check.STATE, x -> x.doubt(2));
        refused("called loan", Check.STATE, x -> x.doubt(3));
    }

    private static void passing() {
        Check.sentence("Promise 11", "if days is out of range");
        refused("no day", Check.ARGUMENT, x -> x.pass(0));
        refused("41 days", Check.ARGUMENT, x -> x.pass(41));
        refused("least days", Check.ARGUMENT, x -> x.pass(LEAST));
        refused("greatest days", Check.ARGUMENT, x -> x.pass(GREATEST));
    }

    /** A wish and a called loan, so that the days before the one too many would show. */
    private static LeftThings late() {
        LeftThings x = Towns.onDay(995);
        x.leave(0, 1, 0);
        x.leave(1, 2, 0);
        x.want(0, 1);
        x.lend(1, 0, 20);
        x.doubt(1);
        return x;
    }

    private static void passingTooFar() {
        Check.sentence("Promise 11", "if the day would be above 1000");
        refusedIn(RefusalsTest::late, "to day 1001", Check.STATE, x -> x.pass(6));
        refusedIn(RefusalsTest::late, "to day 1035", Check.STATE, x -> x.pass(40));
        refusedIn(() -> Towns.onDay(1000), "from day 1000", Check.STATE, x -> x.pass(1));
        Check.sentence("Promise 11", "of several exceptions it is the first one");
        refusedIn(RefusalsTest::late, "to day 1036", Check.ARGUMENT, x -> x.pass(41));
        refusedIn(RefusalsTest::late, "greatest days", Check.ARGUMENT, x -> x.pass(GREATEST));
    }

    private static void asking() {
        Check.sentence("Promises 14 to 21", "when a call throws, nothing has changed");
        refused("where", Check.INDEX, x -> x.where(6));
        refused("whereOn, thing", Check.INDEX, x -> x.whereOn(6, 0));
        refused("whereOn, day", Check.ARGUMENT, x -> x.whereOn(0, 7));
        refused("load", Check.ARGUMENT, x -> x.load(5));
        refused("fees", Check.INDEX, x -> x.fees(6));
        refused("loan", Check.INDEX, x -> x.loan(6));
        refused("purse", Check.ARGUMENT, x -> x.purse(8));
        refused("wish", Check.INDEX, x -> x.wish(3));
        Check.sentence("Promise 15", "of several exceptions it is the first one");
        refused("thing and day", Check.INDEX, x -> x.whereOn(-1, -1));
        refused("thing above and day above", Check.INDEX, x -> x.whereOn(6, 7));
    }
}
