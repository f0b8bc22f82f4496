import java.util.ArrayList;
import java.util.List;

/** Many runs of 512 calls, right and wrong ones, each answer held against the plain reading of the document. */
public final class RunsTest {
    private static final int RUNS = 2000;
    private static final int CALLS = 512;
    private static final int[] STRANGE = {-1, -2, 0, 1, 2, 3, 4, 5, 15, 16, 30, 31, 32, 40, 200, 201, 1000, 1001,
        1459, 1460, Integer.MIN_VALUE, Integer.MAX_VALUE};

    private final CanticlePress press = new CanticlePress();
    private final PlainPress plain = new PlainPress();
    private final List<String> told = new ArrayList<>();
    private long dice;

    private RunsTest(int run) {
        dice = run * 0x9E3779B97F4A7C15L + 1;
    }

    public static void main(String[] args) {
        for (int run = 0; run < RUNS; run++) {
            if (!new RunsTest(run).isAsDue(run)) {
                System.exit(1);
            }
        }
    }

    private boolean isAsDue(int run) {
        int hurry = 1 + run % 7;
        for (int k = 0; k < CALLS; k++) {
            int method = methodAfter(k, hurry);
            int[] args = arguments(method);
            Object got = Ask.outcome(press, method, args);
            Object due = Ask.outcome(plain, method, args);
            told.add(Ask.text(method, args) + " answered " + got);
            if (!due.equals(got)) {
                System.out.println("run " + run + ":");
                told.forEach(System.out::println);
                System.out.println("due is " + due);
                return false;
            }
        }
        return true;
    }

    /** Telling goes first in most runs, so that plans and ends find something. */
    private int methodAfter(int calls, int hurry) {
        if (calls < 20 * hurry) {
            int[] telling = {Ask.HYMN, Ask.HYMN, Ask.RIGHT, Ask.RIGHT, Ask.RIGHT, Ask.LEARN, Ask.LEARN,
                Ask.LEARN, Ask.SERVICE};
            return telling[roll(telling.length)];
        }
        int[] often = {Ask.END, Ask.END, Ask.PLAN, Ask.SERVICE, Ask.SERVICE, Ask.LEARN, Ask.HYMN_OF, Ask.RIGHT,
            Ask.SILENT, Ask.SUNG, Ask.SUNG_BY_HYMNS};
        if (roll(3) > 0) {
            return often[roll(often.length)];
        }
        return roll(40) < 36 ? roll(Ask.PASS) : Ask.PASS;
    }

    private int[] arguments(int method) {
        int[] args = likely(method);
        if (args.length > 0 && roll(12) == 0) {
            args[roll(args.length)] = STRANGE[roll(STRANGE.length)];
        }
        return args;
    }

    private int[] likely(int method) {
        int lines = roll(31) + (roll(9) > 0 ? 0 : 1);
        int rests = roll(1 << Math.min(30, lines)) & roll(1 << 30);
        int first = roll(3) > 0 ? roll(1460) : plain.today();
        int last = first + roll(roll(2) > 0 ? 1460 - first : 61);
        int today = plain.today();
        switch (method) {
            case Ask.HYMN: return new int[] {roll(5), roll(4) > 0 ? 15 : roll(17), lines, rests};
            case Ask.PAGES: case Ask.BAD_TURNS: return new int[] {hymn()};
            case Ask.PAGE_OF: return new int[] {hymn(), roll(31)};
            case Ask.RIGHT: return new int[] {hymn(), roll(5) > 0 ? 0 : 1, first, last};
            case Ask.END: return new int[] {roll(plain.rights() + 1), today - 1 + roll(roll(2) > 0 ? 60 : 1000)};
            case Ask.HAS_RIGHT: return new int[] {hymn(), roll(2), roll(1460)};
            case Ask.PRINT: return new int[] {hymn(), 1 + roll(1000)};
            case Ask.PRINTED: return new int[] {hymn(), roll(4)};
            case Ask.LEARN: return new int[] {roll(4), hymn()};
            case Ask.SERVICE: return new int[] {roll(4), today + roll(roll(2) > 0 ? 100 : 1460)};
            case Ask.PLAN: case Ask.HYMN_OF: return new int[] {roll(plain.services() + 1)};
            case Ask.SUNG: case Ask.SUNG_BY_HYMNS: return new int[] {roll(5), roll(4)};
            case Ask.PASS: return new int[] {1 + roll(roll(3) > 0 ? 60 : 200)};
            default: return new int[0];
        }
    }

    private int hymn() {
        return roll(plain.hymns() + (roll(5) > 0 ? 0 : 1));
    }

    /** The same numbers on each machine and day: no source of chance. */
    private int roll(int sides) {
        dice ^= dice << 13;
        dice ^= dice >>> 7;
        dice ^= dice << 17;
        return (int) Math.floorMod(dice, (long) Math.max(1, sides));
    }
}
