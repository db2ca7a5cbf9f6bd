import java.util.ArrayDeque;
import java.util.Deque;
import java.util.Random;

/** Runs of 512 calls with right and wrong arguments, each answer beside the model's. */
public final class LongRunsTest {
    private static final int RUNS = 400;
    private static final int CALLS = 512;
    private static final int CALLS_BEYOND = 4000;
    private static final int LAST_TOLD = 12;

    private static final String[] NAMES = {"setRoom", "setVan", "leave", "fetch", "want", "value", "lend",
        "repay", "doubt", "pass", "day", "things", "where", "whereOn", "load", "fees", "loan", "purse",
        "taken", "wish"};
    // How often each call comes, by its place in NAMES.
    private static final int[] WEIGHTS = {3, 2, 8, 3, 12, 4, 10, 4, 6, 12, 1, 1, 8, 10, 4, 6, 3, 6, 2, 6};
    private static final int[] EDGES = {Integer.MIN_VALUE, -2, -1, 0, 1, 5, 8, 24, 31, 41, 1001, 5001, 10001,
        Integer.MAX_VALUE - 1, Integer.MAX_VALUE};

    private final LeftThings x = new LeftThings();
    private final Model model = new Model();
    private final Random random;
    private final int mostDays;
    private final Deque<String> told = new ArrayDeque<>();

    /** The same seed makes the same run each time. */
    private LongRunsTest(int seed) {
        random = new Random(seed);
        mostDays = seed % 4 == 0 ? 40 : 3;
    }

    public static void main(String[] args) {
        boolean due = true;
        for (int run = 1; run <= RUNS && due; run++) {
            Check.sentence("Promises 1 to 21", "run " + run);
            due = new LongRunsTest(run).answersAreDue();
        }
        Check.sentence("Rule 7", "no call may ever throw by itself, beyond call 512 too");
        new LongRunsTest(4).throwsNothingElse();
        Check.finish();
    }

    private boolean answersAreDue() {
        for (int i = 0; i < CALLS; i++) {
            int call = nextCall();
            int[] words = wordsOf(call);
            String due = model.answer(call, words[0], words[1], words[2]);
            String got = answer(call, words[0], words[1], words[2]);
            tell(call, words, got);
            if (!got.equals(due)) {
                Check.report("due is " + due + ", the last of " + told);
                return false;
            }
        }
        return true;
    }

    private void throwsNothingElse() {
        for (int i = 0; i < CALLS_BEYOND; i++) {
            int call = nextCall();
            int[] words = wordsOf(call);
            model.answer(call, words[0], words[1], words[2]);
            Class<?> thrown = Check.thrownBy(() -> call(call, words[0], words[1], words[2]));
            Check.holds("kind of " + thrown, thrown == null || thrown == Check.INDEX
                    || thrown == Check.ARGUMENT || thrown == Check.STATE);
        }
    }

    private void tell(int call, int[] words, String got) {
        told.addLast(NAMES[call] + "(" + words[0] + ", " + words[1] + ", " + words[2] + ")=" + got);
        if (told.size() > LAST_TOLD) {
            told.removeFirst();
        }
    }

    private int nextCall() {
        int sum = 0;
        for (int weight : WEIGHTS) {
            sum += weight;
        }
        int drawn = random.nextInt(sum);
        int call = 0;
        while (drawn >= WEIGHTS[call]) {
            drawn -= WEIGHTS[call];
            call++;
        }
        return call;
    }

    /** Mostly right arguments, or most calls would be refused; wrong ones now and then. */
    private int[] wordsOf(int call) {
        int[] words = switch (NAMES[call]) {
            case "setRoom" -> new int[] {below(5), below(31), 0};
            case "setVan" -> new int[] {below(20), 0, 0};
            case "leave" -> new int[] {below(8), 1 + below(3), below(5)};
            case "value" -> new int[] {thing(), below(2) == 0 ? below(200) : below(10001), 0};
            case "lend" -> new int[] {thing(), below(8), 1 + below(below(2) == 0 ? 30 : 5000)};
            case "pass" -> new int[] {1 + below(mostDays), 0, 0};
            case "want" -> new int[] {thing(), below(5), 0};
            case "whereOn" -> new int[] {thing(), below(model.day() + 1), 0};
            case "load" -> new int[] {below(5), 0, 0};
            case "purse" -> new int[] {below(8), 0, 0};
            case "wish" -> new int[] {below(8), 0, 0};
            default -> new int[] {thing(), 0, 0};
        };
        if (below(12) == 0) {
            words[below(3)] = EDGES[below(EDGES.length)];
        }
        return words;
    }

    private int thing() {
        return below(Math.min(25, model.things() + 1));
    }

    private int below(int bound) {
        return random.nextInt(bound);
    }

    private String answer(int call, int a, int b, int c) {
        Integer[] got = {null};
        Class<?> thrown = Check.thrownBy(() -> got[0] = call(call, a, b, c));
        return thrown == null ? "" + got[0] : thrown.getSimpleName();
    }

    private Integer call(int call, int a, int b, int c) {
        return switch (NAMES[call]) {
            case "setRoom" -> x.setRoom(a, b);
            case "setVan" -> x.setVan(a);
            case "leave" -> x.leave(a, b, c);
            case "fetch" -> x.fetch(a);
            case "want" -> x.want(a, b);
            case "value" -> x.value(a, b);
            case "lend" -> lend(a, b, c);
            case "repay" -> x.repay(a);
            case "doubt" -> x.doubt(a);
            case "pass" -> x.pass(a);
            case "day" -> x.day();
            case "things" -> x.things();
            case "where" -> x.where(a);
            case "whereOn" -> x.whereOn(a, b);
            case "load" -> x.load(a);
            case "fees" -> x.fees(a);
            case "loan" -> x.loan(a);
            case "purse" -> x.purse(a);
            case "taken" -> x.taken();
            default -> x.wish(a);
        };
    }

    private Integer lend(int thing, int lender, int sum) {
        x.lend(thing, lender, sum);
        return null;
    }
}
