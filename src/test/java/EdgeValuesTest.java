import java.util.ArrayList;
import java.util.List;

/**
 * Each call with each mixture of values at the edges of its ranges, on presses where nothing, something and all is
 * told: its answer or exception is that of the plain reading, and a call that is refused changes nothing.
 */
public final class EdgeValuesTest {
    private static final int MOST_CALLS = 512;
    private static final int MIN = Integer.MIN_VALUE;
    private static final int MAX = Integer.MAX_VALUE;
    private static final int[] OWNERS = {MIN, -1, 0, 4, 5, MAX};
    private static final int[] CHOIRS = {MIN, -1, 0, 3, 4, MAX};
    private static final int[] YEARS = {MIN, -1, 0, 3, 4, MAX};
    private static final int[] USES = {MIN, -1, 0, 1, 2, MAX};
    private static final int[] HYMNS = {MIN, -1, 0, 1, 2, 15, 16, MAX};
    private static final int[] RIGHTS = {MIN, -1, 0, 1, 2, 3, 39, 40, MAX};
    private static final int[] SERVICES = {MIN, -1, 0, 1, 2, 3, 4, 39, 40, MAX};
    private static final int[] DAYS = {MIN, -2, -1, 0, 1, 58, 59, 60, 61, 119, 120, 1457, 1458, 1459, 1460, MAX};

    private final Check check = new Check();
    private final Script state;
    private final List<Script> questions = List.of(Script.askForReports(), Script.askForRights());
    private final List<List<Object>> unchanged = new ArrayList<>();

    private EdgeValuesTest(Script state) {
        this.state = state;
        check.same("all that brings into the state is taken", state.isTaken(), true);
        for (Script question : questions) {
            check.same("calls in all are too many", state.length() + 1 + question.length() > MOST_CALLS, false);
            unchanged.add(question.answers(state.press()));
        }
    }

    public static void main(String[] args) {
        new EdgeValuesTest(Script.fresh()).all();
        new EdgeValuesTest(Script.some()).all();
        new EdgeValuesTest(Script.full()).all();
        new EdgeValuesTest(Script.fullOnTheLastDay()).all();
    }

    private void all() {
        int[] owners = {-1, 0, 4, 5};
        int[] seasons = {0, 1, 15, 16};
        int[] lines = {MIN, 0, 1, 30, 31, 32};
        int[] rests = {-1, 0, 1, 2, (1 << 30) - 1, 1 << 30};
        each(Ask.HYMN, owners, seasons, lines, rests);
        each(Ask.HYMNS);
        each(Ask.PAGES, HYMNS);
        each(Ask.PAGE_OF, HYMNS, new int[] {MIN, -1, 0, 1, 7, 8, 29, 30, 31, 32, MAX});
        each(Ask.BAD_TURNS, HYMNS);
        int[] hymns = {-1, 0, 1, 2, 15, 16};
        int[] uses = {-1, 0, 1, 2};
        int[] firsts = {-1, 0, 60, 1459, 1460};
        int[] lasts = {MIN, -1, 0, 59, 60, 61, 1459, 1460, MAX};
        each(Ask.RIGHT, hymns, uses, firsts, lasts);
        each(Ask.END, RIGHTS, DAYS);
        each(Ask.HAS_RIGHT, HYMNS, USES, new int[] {MIN, -1, 0, 60, 61, 1459, 1460, MAX});
        each(Ask.PRINT, HYMNS, new int[] {MIN, -1, 0, 1, 1000, 1001, MAX});
        each(Ask.PRINTED, HYMNS, YEARS);
        each(Ask.LEARN, CHOIRS, HYMNS);
        each(Ask.SERVICE, CHOIRS, DAYS);
        each(Ask.PLAN, SERVICES);
        each(Ask.HYMN_OF, SERVICES);
        each(Ask.SILENT);
        each(Ask.SUNG, OWNERS, YEARS);
        each(Ask.SUNG_BY_HYMNS, OWNERS, YEARS);
        each(Ask.PASS, new int[] {MIN, -1, 0, 1, 199, 200, 201, 1459, 1460, MAX});
        check.end();
    }

    private void each(int method, int[]... values) {
        each(method, values, new int[values.length], 0);
    }

    private void each(int method, int[][] values, int[] args, int chosen) {
        if (chosen == args.length) {
            one(method, args);
            return;
        }
        for (int value : values[chosen]) {
            args[chosen] = value;
            each(method, values, args, chosen + 1);
        }
    }

    private void one(int method, int[] args) {
        String text = Ask.text(method, args);
        Object due = Ask.outcome(state.plain(), method, args);
        check.same(text, Ask.outcome(state.press(), method, args), due);
        if (due instanceof String) {
            changesNothing(text, method, args);
        }
    }

    /** Each script of questions asks a press of its own: what it tells changes the press, too. */
    private void changesNothing(String text, int method, int[] args) {
        for (int k = 0; k < questions.size(); k++) {
            CanticlePress press = state.press();
            Ask.outcome(press, method, args);
            Script question = questions.get(k);
            question.same(check, "after the refused " + text, question.answers(press), unchanged.get(k));
        }
    }
}
