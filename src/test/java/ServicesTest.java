/** Promises 13 to 15: service, plan and hymnOf. */
public final class ServicesTest {
    private static final int SING = CanticlePress.SING;
    private static final int PRINT = CanticlePress.PRINT;
    private static final int NONE = CanticlePress.NONE;
    private static final int MIN = Integer.MIN_VALUE;
    private static final int MAX = Integer.MAX_VALUE;

    public static void main(String[] args) {
        Check check = new Check();
        numbers(check);
        wrongServices(check);
        knownHymnsAlone(check);
        seasons(check);
        rights(check);
        rest(check);
        fewest(check);
        fewestOfAllChoirsAndDays(check);
        plan(check);
        planForgetsItsOwnHymn(check);
        wrongPlans(check);
        check.end();
    }

    /** A press whose hymns have all seasons and rights to be sung on all days, and which all choirs know. */
    private static CanticlePress pressOf(int hymns) {
        CanticlePress press = new CanticlePress();
        for (int hymn = 0; hymn < hymns; hymn++) {
            press.hymn(hymn % 5, 15, 1, 0);
            press.right(hymn, SING, 0, 1459);
            for (int choir = 0; choir < 4; choir++) {
                press.learn(choir, hymn);
            }
        }
        return press;
    }

    private static int hymnOn(CanticlePress press, int choir, int day) {
        return press.hymnOf(press.service(choir, day));
    }

    private static void numbers(Check check) {
        CanticlePress press = pressOf(1);
        for (int service = 0; service < 40; service++) {
            check.same("service " + service, press.service(service % 4, service / 4), service);
        }
        check.state("the 41st service", () -> press.service(0, 500));
        check.index("no 41st service", () -> press.hymnOf(40));
        check.index("no choir goes ahead of 40 services", () -> press.service(4, 500));
        check.argument("no day goes ahead of 40 services", () -> press.service(0, 1460));
        check.same("the first one has the hymn", press.hymnOf(0), 0);
        check.same("the last one has none", press.hymnOf(39), NONE);
    }

    private static void wrongServices(Check check) {
        CanticlePress press = pressOf(2);
        press.pass(10);
        check.same("today", press.service(0, 10), 0);
        check.same("the last day", press.service(0, 1459), 1);
        check.same("another choir on the same day", press.service(1, 10), 2);
        String before = Snapshot.of(press, 3, 10);
        for (int choir : new int[] {-1, 4, MIN, MAX}) {
            check.index("choir " + choir, () -> press.service(choir, 20));
        }
        for (int day : new int[] {9, 0, -1, 1460, MIN, MAX}) {
            check.argument("day " + day, () -> press.service(0, day));
        }
        check.index("no choir goes ahead of no day", () -> press.service(4, 9));
        check.state("twice on a day", () -> press.service(0, 10));
        check.state("twice on the last day", () -> press.service(0, 1459));
        check.index("no service more", () -> press.hymnOf(3));
        check.same("wrong services change nothing", Snapshot.of(press, 3, 10), before);
        check.same("the next one", press.service(0, 11), 3);
    }

    private static void knownHymnsAlone(Check check) {
        CanticlePress press = pressOf(3);
        press.learn(1, 0);
        press.learn(1, 1);
        check.same("the hymn that it knows", hymnOn(press, 1, 5), 2);
        press.learn(1, 2);
        check.same("it knows none", hymnOn(press, 1, 50), NONE);
        check.same("another choir knows all", hymnOn(press, 2, 50), 0);
        check.same("without any hymn", hymnOn(new CanticlePress(), 0, 0), NONE);
    }

    private static void seasons(Check check) {
        int[] days = {0, 91, 92, 183, 184, 275, 276, 364, 365, 456, 457, 729, 730, 1094, 1095, 1187, 1459};
        int[] due = {0, 0, 1, 1, 2, 2, 3, 3, 0, 0, 1, 3, 0, 3, 0, 1, 3};
        for (int k = 0; k < days.length; k++) {
            CanticlePress press = new CanticlePress();
            for (int season = 0; season < 4; season++) {
                press.hymn(0, 1 << season, 1, 0);
                press.right(season, SING, 0, 1459);
                press.learn(0, season);
            }
            check.same("the hymn of the season of the day " + days[k], hymnOn(press, 0, days[k]), due[k]);
        }
        CanticlePress press = new CanticlePress();
        press.hymn(0, 5, 1, 0);
        press.right(0, SING, 0, 1459);
        press.learn(0, 0);
        check.same("in a season of two", hymnOn(press, 0, 200), 0);
        check.same("in another season", hymnOn(press, 0, 300), NONE);
    }

    private static void rights(Check check) {
        CanticlePress press = new CanticlePress();
        press.hymn(0, 15, 1, 0);
        press.hymn(0, 15, 1, 0);
        press.learn(0, 0);
        press.learn(0, 1);
        press.right(0, PRINT, 0, 1459);
        press.right(1, SING, 50, 150);
        check.same("ahead of the right", hymnOn(press, 0, 49), NONE);
        check.same("on its first day", hymnOn(press, 0, 50), 1);
        check.same("on its last day", hymnOn(press, 0, 150), 1);
        check.same("behind the right", hymnOn(press, 0, 151), NONE);
        press.right(0, SING, 0, 1459);
        check.same("a right told later", press.hymnOf(0), NONE);
        check.same("a right told later, planned anew", press.plan(0), 0);
    }

    private static void rest(Check check) {
        CanticlePress press = pressOf(1);
        check.same("at first", hymnOn(press, 0, 100), 0);
        check.same("27 days ahead", hymnOn(press, 0, 73), NONE);
        check.same("27 days behind", hymnOn(press, 0, 127), NONE);
        check.same("28 days ahead", hymnOn(press, 0, 72), 0);
        check.same("28 days behind", hymnOn(press, 0, 128), 0);
        check.same("the next day", hymnOn(press, 0, 101), NONE);
        check.same("another choir on the same day", hymnOn(press, 1, 100), 0);
        press.pass(50);
        check.same("28 days behind a service of another choir", hymnOn(press, 2, 50), 0);
        press.pass(20);
        check.same("rest since a past service", hymnOn(press, 2, 77), NONE);
        check.same("enough rest since a past service", hymnOn(press, 2, 78), 0);
    }

    private static void fewest(Check check) {
        CanticlePress press = pressOf(3);
        int[] due = {0, 1, 2, 0, 1, 2, 0};
        for (int k = 0; k < due.length; k++) {
            check.same("the one in the fewest services, " + k, hymnOn(press, 0, 40 * k), due[k]);
        }
        press.hymn(0, 15, 1, 0);
        press.right(3, SING, 0, 1459);
        press.learn(0, 3);
        check.same("a new hymn is in the fewest", hymnOn(press, 0, 1000), 3);
        check.same("and again", hymnOn(press, 0, 1100), 3);
        check.same("of several the lowest", hymnOn(press, 0, 1200), 1);
    }

    private static void fewestOfAllChoirsAndDays(Check check) {
        CanticlePress press = pressOf(2);
        check.same("another choir's", hymnOn(press, 3, 0), 0);
        check.same("counts", hymnOn(press, 0, 1000), 1);
        check.same("equal: the lowest", hymnOn(press, 0, 500), 0);
        press.pass(30);
        check.same("past ones count", hymnOn(press, 1, 700), 1);
        check.same("equal again", hymnOn(press, 1, 1400), 0);
    }

    private static void plan(Check check) {
        CanticlePress press = pressOf(1);
        press.learn(0, 0);
        press.service(0, 30);
        check.same("it knows none", press.plan(0), NONE);
        press.learn(0, 0);
        check.same("it knows one", press.plan(0), 0);
        check.same("hymnOf", press.hymnOf(0), 0);
        press.hymn(0, 15, 1, 0);
        press.right(1, SING, 0, 1459);
        press.learn(0, 1);
        check.same("both are in none", press.plan(0), 0);
        press.service(1, 30);
        check.same("the first is in another", press.plan(0), 1);
        press.pass(30);
        check.same("today's", press.plan(0), 1);
    }

    /** A service's own hymn neither counts as a use nor is it too near to itself. */
    private static void planForgetsItsOwnHymn(Check check) {
        CanticlePress press = pressOf(1);
        press.service(0, 30);
        check.same("the only hymn again", press.plan(0), 0);
        check.same("and again", press.plan(0), 0);
        CanticlePress two = pressOf(2);
        two.service(0, 30);
        check.same("the lowest again", two.plan(0), 0);
        two.service(0, 40);
        check.same("the second has the other", two.hymnOf(1), 1);
        check.same("the first keeps its own", two.plan(0), 0);
        check.same("the second keeps its own", two.plan(1), 1);
    }

    private static void wrongPlans(Check check) {
        CanticlePress press = pressOf(1);
        check.index("plan of no service", () -> press.plan(0));
        check.index("hymnOf no service", () -> press.hymnOf(0));
        press.service(0, 10);
        press.learn(1, 0);
        press.service(1, 10);
        press.learn(1, 0);
        for (int service : new int[] {-1, 2, 39, 40, MIN, MAX}) {
            check.index("plan of " + service, () -> press.plan(service));
            check.index("hymnOf " + service, () -> press.hymnOf(service));
        }
        press.learn(0, 0);
        press.pass(11);
        check.state("plan of a past service", () -> press.plan(0));
        check.state("plan of a past service without a hymn", () -> press.plan(1));
        check.same("a past hymn stays", press.hymnOf(0), 0);
        check.same("a past silence stays", press.hymnOf(1), NONE);
    }
}
