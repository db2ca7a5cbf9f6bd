/**
 * What holds after every call of long runs with right and wrong arguments: a call throws nothing
 * but the document's exceptions, one that throws changes nothing, and the answers fit together.
 */
public final class LongRunsTest {
    private static final int RUNS = 200;
    private static final int CALLS = 512;
    private static final int CALLS_BEYOND = 3000;

    private final LeftThings x = new LeftThings();
    private long seed;

    private LongRunsTest(long seed) {
        this.seed = seed;
    }

    public static void main(String[] args) {
        for (int run = 1; run <= RUNS; run++) {
            new LongRunsTest(run).calls(CALLS);
        }
        // Answers are free then, but the machine must not throw.
        new LongRunsTest(RUNS + 1).calls(CALLS_BEYOND);
        Check.finish();
    }

    private void calls(int count) {
        String before = answers();
        for (int i = 0; i < count; i++) {
            int kind = number(0, 9);
            int[] words = {number(-1, 12), number(-1, 8), number(-1, 32)};
            Class<?> thrown = Check.thrownBy(() -> call(kind, words));
            Check.holds("kind of " + thrown, thrown == null || thrown == Check.INDEX
                    || thrown == Check.ARGUMENT || thrown == Check.STATE);
            String after = answers();
            Check.holds("nothing changed by " + thrown, thrown == null || after.equals(before));
            before = after;
            fitTogether();
        }
    }

    /** Right arguments are made more likely, or most calls would be refused. */
    private void call(int kind, int[] words) {
        int thing = words[0] * 2 < x.things() ? words[0] * 2 : words[0];
        switch (kind) {
            case 0 -> x.setRoom(words[1], words[2]);
            case 1 -> x.setVan(words[2]);
            case 2 -> x.leave(words[1], words[2] % 5, words[0] % 6);
            case 3 -> x.fetch(words[2]);
            case 4, 5 -> x.want(thing, words[1] % 6);
            case 6 -> x.value(thing, words[2] * 4);
            case 7 -> x.lend(thing, words[1], words[2]);
            case 8 -> settle(thing, words[1]);
            default -> x.pass(words[1] < 7 ? words[1] % 4 : words[2] % 9);
        }
    }

    private void settle(int thing, int word) {
        if (word % 2 == 0) {
            x.repay(thing);
        } else {
            x.doubt(thing);
        }
    }

    private void fitTogether() {
        int[] sizes = new int[5];
        int paid = 0;
        for (int thing = 0; thing < x.things(); thing++) {
            int place = x.where(thing);
            Check.holds("place " + place, place >= 0 && place <= 4 || place == 10 || place == 11);
            Check.same("today", x.whereOn(thing, x.day()), place);
            Check.holds("no loan away from counters", place <= 4 || x.loan(thing) == 0);
            paid += place > 4 ? x.fees(thing) : 0;
            backAndForth(thing);
        }
        Check.same("taken", x.taken(), paid);
        int wishes = 0;
        while (Check.thrownBy(wishAt(wishes)) == null) {
            Check.holds("wanted at a counter", x.where(x.wish(wishes)) <= 4);
            wishes++;
        }
        Check.holds("wishes", wishes <= x.things());
    }

    private Runnable wishAt(int place) {
        return () -> x.wish(place);
    }

    /** A thing is first not left, then at counters, then away for good. */
    private void backAndForth(int thing) {
        int stage = 0;
        for (int day = 0; day < x.day(); day++) {
            int place = x.whereOn(thing, day);
            int now = place == 12 ? 0 : place <= 4 ? 1 : place;
            Check.holds("stage " + stage + " before " + now, now == stage || now > stage && stage < 10);
            stage = now;
        }
    }

    private String answers() {
        StringBuilder all = new StringBuilder();
        all.append(x.day()).append(' ').append(x.taken());
        for (int counter = 0; counter < 5; counter++) {
            all.append(' ').append(x.load(counter));
        }
        for (int person = 0; person < 8; person++) {
            all.append(' ').append(x.purse(person));
        }
        for (int thing = 0; thing < x.things(); thing++) {
            all.append(' ').append(x.where(thing)).append(' ').append(x.fees(thing));
            all.append(' ').append(x.loan(thing)).append(' ').append(worth(thing));
        }
        for (int place = 0; Check.thrownBy(wishAt(place)) == null; place++) {
            all.append(' ').append(x.wish(place));
        }
        return all.toString();
    }

    /** The worth has no question of its own: it is what value answers, and set again at once. */
    private int worth(int thing) {
        if (x.where(thing) > 4) {
            return 0;
        }
        int worth = x.value(thing, 0);
        x.value(thing, worth);
        return worth;
    }

    /** The same numbers in every run of the test. */
    private int number(int least, int most) {
        seed = seed * 6364136223846793005L + 1442695040888963407L;
        return least + (int) Math.floorMod(seed >>> 33, (long) (most - least + 1));
    }
}
