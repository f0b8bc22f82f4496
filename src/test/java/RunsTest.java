import java.util.ArrayList;
import java.util.Arrays;
import java.util.List;

/** Many runs of 512 calls, right and wrong ones, each answer held against the plain reading of the document. */
public final class RunsTest {
    private static final int RUNS = 2000;
    private static final int CALLS = 512;
    private static final int[] STRANGE = {-1, -2, 0, 1, 2, 3, 4, 5, 15, 16, 30, 31, 32, 40, 200, 201, 1000, 1001,
        1459, 1460, Integer.MIN_VALUE, Integer.MAX_VALUE};

    private final CanticlePress press = new CanticlePress();
    private final PlainPress plain = new PlainPress();
    private final List<String> told = new ArrayList<>();
    private long dice;

    private RunsTest(int run) {
        dice = run * 0x9E3779B97F4A7C15L + 1;
    }

    public static void main(String[] args) {
        for (int run = 0; run < RUNS; run++) {
            if (!new RunsTest(run).isAsDue(run)) {
                System.exit(1);
            }
        }
    }

    private boolean isAsDue(int run) {
        int hurry = 1 + run % 7;
        for (int k = 0; k < CALLS; k++) {
            int method = methodAfter(k, hurry);
            int[] args = arguments(method);
            Object got = Check.outcome(() -> ask(press, method, args));
            Object due = Check.outcome(() -> ask(plain, method, args));
            told.add(name(method) + Arrays.toString(args) + " answered " + got);
            if (!due.equals(got)) {
                System.out.println("run " + run + ":");
                told.forEach(System.out::println);
                System.out.println("due is " + due);
                return false;
            }
        }
        return true;
    }

    /** Telling goes first in most runs, so that plans and ends find something. */
    private int methodAfter(int calls, int hurry) {
        if (calls < 20 * hurry) {
            int[] telling = {0, 0, 5, 5, 5, 10, 10, 10, 11};
            return telling[roll(telling.length)];
        }
        int[] often = {6, 6, 12, 11, 11, 10, 13, 5, 14, 15, 16};
        if (roll(3) > 0) {
            return often[roll(often.length)];
        }
        return roll(40) < 36 ? roll(17) : 17;
    }

    private int[] arguments(int method) {
        int[] args = likely(method);
        if (args.length > 0 && roll(12) == 0) {
            args[roll(args.length)] = STRANGE[roll(STRANGE.length)];
        }
        return args;
    }

    private int[] likely(int method) {
        int lines = roll(31) + (roll(9) > 0 ? 0 : 1);
        int first = roll(3) > 0 ? roll(1460) : plain.today();
        switch (method) {
            case 0: return new int[] {roll(5), roll(4) > 0 ? 15 : roll(17), lines, roll(1 << Math.min(30, lines)) & roll(1 << 30)};
            case 2: case 4: return new int[] {hymn()};
            case 3: return new int[] {hymn(), roll(31)};
            case 5: return new int[] {hymn(), roll(5) > 0 ? 0 : 1, first, first + roll(roll(2) > 0 ? 1460 - first : 61)};
            case 6: return new int[] {roll(plain.rights() + 1), plain.today() - 1 + roll(roll(2) > 0 ? 60 : 1000)};
            case 7: return new int[] {hymn(), roll(2), roll(1460)};
            case 8: return new int[] {hymn(), 1 + roll(1000)};
            case 9: return new int[] {hymn(), roll(4)};
            case 10: return new int[] {roll(4), hymn()};
            case 11: return new int[] {roll(4), plain.today() + roll(roll(2) > 0 ? 100 : 1460)};
            case 12: case 13: return new int[] {roll(plain.services() + 1)};
            case 15: case 16: return new int[] {roll(5), roll(4)};
            case 17: return new int[] {1 + roll(roll(3) > 0 ? 60 : 200)};
            default: return new int[0];
        }
    }

    private int hymn() {
        return roll(plain.hymns() + (roll(5) > 0 ? 0 : 1));
    }

    /** The same numbers on each machine and day: no source of chance. */
    private int roll(int sides) {
        dice ^= dice << 13;
        dice ^= dice >>> 7;
        dice ^= dice << 17;
        return (int) Math.floorMod(dice, (long) Math.max(1, sides));
    }

    private static String name(int method) {
        return new String[] {"hymn", "hymns", "pages", "pageOf", "badTurns", "right", "end", "hasRight", "print", "printed",
            "learn", "service", "plan", "hymnOf", "silent", "sung", "sungByHymns", "pass"}[method];
    }

    private static Object ask(CanticlePress x, int method, int[] a) {
        switch (method) {
            case 0: return x.hymn(a[0], a[1], a[2], a[3]);
            case 1: return x.hymns();
            case 2: return x.pages(a[0]);
            case 3: return x.pageOf(a[0], a[1]);
            case 4: return x.badTurns(a[0]);
            case 5: return x.right(a[0], a[1], a[2], a[3]);
            case 6: return x.end(a[0], a[1]);
            case 7: return x.hasRight(a[0], a[1], a[2]);
            case 8: return x.print(a[0], a[1]);
            case 9: return x.printed(a[0], a[1]);
            case 10: return x.learn(a[0], a[1]);
            case 11: return x.service(a[0], a[1]);
            case 12: return x.plan(a[0]);
            case 13: return x.hymnOf(a[0]);
            case 14: return x.silent();
            case 15: return x.sung(a[0], a[1]);
            case 16: return x.sungByHymns(a[0], a[1]);
            default: return x.pass(a[0]);
        }
    }

    private static Object ask(PlainPress x, int method, int[] a) {
        switch (method) {
            case 0: return x.hymn(a[0], a[1], a[2], a[3]);
            case 1: return x.hymns();
            case 2: return x.pages(a[0]);
            case 3: return x.pageOf(a[0], a[1]);
            case 4: return x.badTurns(a[0]);
            case 5: return x.right(a[0], a[1], a[2], a[3]);
            case 6: return x.end(a[0], a[1]);
            case 7: return x.hasRight(a[0], a[1], a[2]);
            case 8: return x.print(a[0], a[1]);
            case 9: return x.printed(a[0], a[1]);
            case 10: return x.learn(a[0], a[1]);
            case 11: return x.service(a[0], a[1]);
            case 12: return x.plan(a[0]);
            case 13: return x.hymnOf(a[0]);
            case 14: return x.silent();
            case 15: case 16: return x.sung(a[0], a[1]);
            default: return x.pass(a[0]);
        }
    }
}
