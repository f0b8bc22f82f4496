import java.util.ArrayList;
import java.util.Arrays;
import java.util.List;

/** Calls in a row, to be made on a new press: they bring it into a state, or ask for all that it holds. */
final class Script {
    private final List<int[]> calls = new ArrayList<>();

    Script then(int method, int... args) {
        int[] call = new int[args.length + 1];
        call[0] = method;
        System.arraycopy(args, 0, call, 1, args.length);
        calls.add(call);
        return this;
    }

    int length() {
        return calls.size();
    }

    CanticlePress press() {
        CanticlePress press = new CanticlePress();
        answers(press);
        return press;
    }

    PlainPress plain() {
        PlainPress plain = new PlainPress();
        for (int[] call : calls) {
            Ask.outcome(plain, call[0], arguments(call));
        }
        return plain;
    }

    List<Object> answers(CanticlePress press) {
        List<Object> answers = new ArrayList<>();
        for (int[] call : calls) {
            answers.add(Ask.outcome(press, call[0], arguments(call)));
        }
        return answers;
    }

    /** Whether each call was taken, none refused. */
    boolean isTaken() {
        return answers(new CanticlePress()).stream().noneMatch(answer -> answer instanceof String);
    }

    /** Holds each answer of the script's calls against the one that is due. */
    void same(Check check, String when, List<Object> got, List<Object> due) {
        for (int k = 0; k < calls.size() && !got.equals(due); k++) {
            int[] call = calls.get(k);
            check.same(Ask.text(call[0], arguments(call)) + " " + when, got.get(k), due.get(k));
        }
    }

    private static int[] arguments(int[] call) {
        return Arrays.copyOfRange(call, 1, call.length);
    }

    /** Nothing told yet. */
    static Script fresh() {
        return new Script();
    }

    /** Some of each, on a day in the year 0: past services and coming ones, rights that are over and that hold. */
    static Script some() {
        Script script = new Script();
        script.then(Ask.HYMN, 0, 15, 1, 0).then(Ask.HYMN, 4, 1, 30, 1 << 5);
        script.then(Ask.RIGHT, 0, 0, 0, 1459).then(Ask.RIGHT, 1, 0, 50, 120).then(Ask.RIGHT, 0, 1, 0, 60);
        script.then(Ask.LEARN, 0, 0).then(Ask.LEARN, 0, 1).then(Ask.LEARN, 3, 0);
        script.then(Ask.SERVICE, 0, 30).then(Ask.SERVICE, 0, 70).then(Ask.SERVICE, 3, 60).then(Ask.SERVICE, 2, 20);
        return script.then(Ask.PRINT, 0, 7).then(Ask.PASS, 60);
    }

    /** As many as there may be, on the day 0. */
    static Script full() {
        Script script = new Script();
        for (int hymn = 0; hymn < 16; hymn++) {
            script.then(Ask.HYMN, hymn % 5, 15 - hymn % 3, 15 + hymn, 3 << hymn % 13);
        }
        for (int right = 0; right < 40; right++) {
            script.then(Ask.RIGHT, right % 16, right / 16 % 2, right % 16, 1459 - 30 * right);
        }
        for (int choir = 0; choir < 4; choir++) {
            for (int hymn = choir; hymn < 16; hymn += 1 + choir) {
                script.then(Ask.LEARN, choir, hymn);
            }
        }
        script.then(Ask.PRINT, 0, 3);
        for (int service = 0; service < 40; service++) {
            script.then(Ask.SERVICE, service % 4, service / 4 * 12);
        }
        return script;
    }

    /** As many as there may be, on the last day. */
    static Script fullOnTheLastDay() {
        Script script = full();
        for (int k = 0; k < 7; k++) {
            script.then(Ask.PASS, 200);
        }
        return script.then(Ask.PASS, 59);
    }

    /** Hymns, prints and services; the last calls tell today, and the number of the next of each. */
    static Script askForReports() {
        Script script = new Script().then(Ask.HYMNS).then(Ask.SILENT);
        for (int hymn = 0; hymn < 17; hymn++) {
            script.then(Ask.PAGES, hymn).then(Ask.BAD_TURNS, hymn);
            script.then(Ask.PAGE_OF, hymn, 8).then(Ask.PAGE_OF, hymn, 29);
            script.then(Ask.PRINTED, hymn, 0).then(Ask.PRINTED, hymn, 3);
        }
        for (int owner = 0; owner < 5; owner++) {
            for (int year = 0; year < 4; year++) {
                script.then(Ask.SUNG, owner, year).then(Ask.SUNG_BY_HYMNS, owner, year);
            }
        }
        for (int service = 0; service < 41; service++) {
            script.then(Ask.HYMN_OF, service);
        }
        script.then(Ask.HYMN, 2, 9, 12, 77).then(Ask.RIGHT, 0, 0, 3, 33).then(Ask.SERVICE, 1, 1459);
        return script.then(Ask.PASS, 1);
    }

    /** The days of rights, what choirs know, and how services would be planned now. */
    static Script askForRights() {
        Script script = new Script();
        for (int hymn = 0; hymn < 16; hymn++) {
            for (int day : new int[] {0, 60, 120, 1459}) {
                script.then(Ask.HAS_RIGHT, hymn, 0, day).then(Ask.HAS_RIGHT, hymn, 1, day);
            }
        }
        for (int service = 0; service < 41; service++) {
            script.then(Ask.PLAN, service);
        }
        for (int choir = 0; choir < 4; choir++) {
            for (int hymn = 0; hymn < 16; hymn++) {
                script.then(Ask.LEARN, choir, hymn);
            }
        }
        for (int right = 0; right < 41; right++) {
            script.then(Ask.END, right, 1458).then(Ask.END, right, 59);
        }
        return script;
    }
}
