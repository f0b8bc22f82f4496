/** The sentences of the document on reports and days that name an edge, each with a test of its own. */
public final class ReportEdgesTest {
    private static final int NONE = CanticlePress.NONE;
    private static final int SING = CanticlePress.SING;
    private static final int MIN = Integer.MIN_VALUE;
    private static final int MAX = Integer.MAX_VALUE;

    public static void main(String[] args) {
        Check check = new Check();
        nothingToldYet(check);
        silentUpToNow(check);
        silentWithoutAHymn(check);
        all40AreSilent(check);
        sungUpToNow(check);
        sungInAYear(check);
        hadAHymnOfAnOwner(check);
        all40AreSung(check);
        noSuchOwner(check);
        noSuchYear(check);
        onTheDay0(check);
        daysToPass(check);
        notAbove1459(check);
        check.end();
    }

    /** A press whose hymns have all seasons and rights to be sung on all days, and which all choirs know. */
    private static CanticlePress pressOf(int... owners) {
        CanticlePress press = new CanticlePress();
        for (int hymn = 0; hymn < owners.length; hymn++) {
            press.hymn(owners[hymn], 15, 1, 0);
            press.right(hymn, SING, 0, 1459);
            for (int choir = 0; choir < 4; choir++) {
                press.learn(choir, hymn);
            }
        }
        return press;
    }

    private static void passTo(CanticlePress press, int day) {
        int today = 0;
        while (today < day) {
            today = press.pass(Math.min(200, day - today));
        }
    }

    private static void sung(Check check, String what, CanticlePress press, int owner, int year, int due) {
        check.same("sung, " + what, press.sung(owner, year), due);
        check.same("sungByHymns, " + what, press.sungByHymns(owner, year), due);
    }

    private static void nothingToldYet(Check check) {
        CanticlePress press = new CanticlePress();
        check.same("silent", press.silent(), 0);
        for (int owner = 0; owner < 5; owner++) {
            for (int year = 0; year < 4; year++) {
                sung(check, "of " + owner + " in " + year, press, owner, year, 0);
            }
        }
        passTo(press, 1459);
        check.same("silent on the last day", press.silent(), 0);
        sung(check, "on the last day", press, 4, 3, 0);
    }

    /** "how many services up to now, those of today included, were without a hymn" */
    private static void silentUpToNow(Check check) {
        for (int day : new int[] {0, 1, 365, 1458}) {
            CanticlePress press = new CanticlePress();
            press.service(0, day);
            press.service(1, day);
            press.service(2, day + 1);
            if (day > 0) {
                passTo(press, day - 1);
                check.same("tomorrow's", press.silent(), 0);
                press.pass(1);
            }
            check.same("today's, " + day, press.silent(), 2);
            press.pass(1);
            check.same("yesterday's and today's", press.silent(), 3);
        }
    }

    /** "were without a hymn" */
    private static void silentWithoutAHymn(Check check) {
        CanticlePress press = pressOf(0);
        press.service(0, 0);
        press.learn(1, 0);
        press.service(1, 0);
        check.same("one of two", press.silent(), 1);
        press.learn(0, 0);
        check.same("a forgotten hymn is one still", press.silent(), 1);
        press.plan(0);
        check.same("both", press.silent(), 2);
        press.learn(0, 0);
        press.plan(0);
        check.same("one again", press.silent(), 1);
        check.same("one is planned anew", press.end(0, -1), 1);
        check.same("both again", press.silent(), 2);
    }

    private static void all40AreSilent(Check check) {
        CanticlePress press = new CanticlePress();
        for (int service = 0; service < 40; service++) {
            press.service(service % 4, service / 4);
        }
        for (int day = 0; day < 10; day++) {
            check.same("on the day " + day, press.silent(), 4 * (day + 1));
            press.pass(1);
        }
        check.same("behind all", press.silent(), 40);
        passTo(press, 1400);
        check.same("much later", press.silent(), 40);
    }

    /** "how many services of a year up to now, those of today included" */
    private static void sungUpToNow(Check check) {
        for (int day : new int[] {0, 1, 365, 1458}) {
            int year = day / 365;
            CanticlePress press = pressOf(3);
            press.service(0, day);
            press.service(1, day);
            press.service(2, day + 1);
            if (day > 0) {
                passTo(press, day - 1);
                sung(check, "tomorrow's", press, 3, year, 0);
                press.pass(1);
            }
            sung(check, "today's, " + day, press, 3, year, 2);
            press.pass(1);
            sung(check, "yesterday's and today's", press, 3, year, 3);
        }
    }

    /** "The year of a day is the day divided by 365, rounded down" */
    private static void sungInAYear(Check check) {
        int[] days = {0, 364, 365, 729, 730, 1094, 1095, 1459};
        int[] yearOf = {0, 0, 1, 1, 2, 2, 3, 3};
        for (int k = 0; k < days.length; k++) {
            CanticlePress press = pressOf(4);
            press.service(0, days[k]);
            passTo(press, 1459);
            for (int year = 0; year < 4; year++) {
                sung(check, "of the day " + days[k] + " in " + year, press, 4, year, year == yearOf[k] ? 1 : 0);
            }
        }
    }

    /** "had a hymn of an owner" */
    private static void hadAHymnOfAnOwner(Check check) {
        CanticlePress press = pressOf(4, 0, 4);
        press.service(0, 0);
        press.service(1, 0);
        press.service(2, 0);
        press.service(3, 0);
        press.service(0, 1);
        press.service(0, 2);
        press.service(0, 3);
        int[] hymns = {0, 1, 2, 0, 1, 2, NONE};
        for (int service = 0; service < hymns.length; service++) {
            check.same("the hymn of " + service, press.hymnOf(service), hymns[service]);
        }
        press.pass(3);
        int[] due = {2, 0, 0, 0, 4};
        for (int owner = 0; owner < 5; owner++) {
            sung(check, "of " + owner, press, owner, 0, due[owner]);
        }
        check.same("the one without a hymn is nobody's", press.silent(), 1);
    }

    private static void all40AreSung(Check check) {
        CanticlePress press = pressOf(2, 2, 2, 2, 2, 2, 2, 2, 2, 2, 2, 2, 2, 2, 2, 2);
        for (int service = 0; service < 40; service++) {
            press.service(service % 4, service / 4);
        }
        press.pass(8);
        sung(check, "all but the last four", press, 2, 0, 36);
        press.pass(1);
        sung(check, "all", press, 2, 0, 40);
        sung(check, "of another owner", press, 1, 0, 0);
        sung(check, "of another year", press, 2, 1, 0);
    }

    /** "owner: 0 to 4"; "Throws IndexOutOfBoundsException if there is no such owner" */
    private static void noSuchOwner(Check check) {
        CanticlePress press = pressOf(0, 4);
        sung(check, "of the least", press, 0, 0, 0);
        sung(check, "of the most", press, 4, 0, 0);
        for (int owner : new int[] {-1, 5, MIN, MAX}) {
            check.index("sung of " + owner, () -> press.sung(owner, 0));
            check.index("sungByHymns of " + owner, () -> press.sungByHymns(owner, 0));
        }
    }

    /** "year: 0 to 3"; "Throws IndexOutOfBoundsException if there is no such ... year" */
    private static void noSuchYear(Check check) {
        CanticlePress press = pressOf(0, 4);
        sung(check, "in the least", press, 0, 0, 0);
        sung(check, "in the most", press, 0, 3, 0);
        for (int year : new int[] {-1, 4, MIN, MAX}) {
            check.index("sung in " + year, () -> press.sung(0, year));
            check.index("sungByHymns in " + year, () -> press.sungByHymns(0, year));
        }
        check.index("neither owner nor year", () -> press.sung(5, 4));
        check.index("neither owner nor year, by hymns", () -> press.sungByHymns(-1, -1));
    }

    /** "Makes a press ... on the day 0"; "today is the day 0 at first" */
    private static void onTheDay0(Check check) {
        CanticlePress press = new CanticlePress();
        check.same("a service today", press.service(0, 0), 0);
        check.same("counts", press.silent(), 1);
        check.same("a service tomorrow", press.service(0, 1), 1);
        check.same("does not", press.silent(), 1);
        check.same("a day later", press.pass(1), 1);
        check.same("it does", press.silent(), 2);
    }

    /** "days: 1 to 200"; "Returns today then."; "Throws IllegalArgumentException if days is out of its range" */
    private static void daysToPass(Check check) {
        CanticlePress press = new CanticlePress();
        check.same("the least", press.pass(1), 1);
        check.same("the most", press.pass(200), 201);
        check.same("one less", press.pass(199), 400);
        for (int days : new int[] {0, -1, -200, 201, 1059, 1060, MIN, MAX}) {
            check.argument(days + " days", () -> press.pass(days));
        }
        check.same("the day then", press.pass(1), 401);
    }

    /** "Throws IllegalStateException if today would be above 1459" */
    private static void notAbove1459(Check check) {
        for (int days : new int[] {1, 2, 100, 199, 200}) {
            CanticlePress press = new CanticlePress();
            passTo(press, 1459 - days);
            if (days < 200) {
                check.state("to 1460 by " + (days + 1), () -> press.pass(days + 1));
            }
            check.same("to 1459 by " + days, press.pass(days), 1459);
            for (int more : new int[] {1, 2, 200}) {
                check.state(more + " more", () -> press.pass(more));
            }
            check.argument("today stays", () -> press.service(0, 1458));
            check.same("a service today", press.service(0, 1459), 0);
        }
    }
}
