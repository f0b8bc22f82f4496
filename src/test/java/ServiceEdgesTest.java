/** The sentences of the document on choirs and services that name an edge, each with a test of its own. */
public final class ServiceEdgesTest {
    private static final int NONE = CanticlePress.NONE;
    private static final int SING = CanticlePress.SING;
    private static final int PRINT = CanticlePress.PRINT;
    private static final int MIN = Integer.MIN_VALUE;
    private static final int MAX = Integer.MAX_VALUE;

    public static void main(String[] args) {
        Check check = new Check();
        noneAtFirst(check);
        noSuchChoir(check);
        noSuchHymn(check);
        orForgets(check);
        servicesStay(check);
        atMost40Services(check);
        numberedFrom0(check);
        fromTodayOn(check);
        to1459(check);
        oneOnThatDay(check);
        itHasNone(check);
        thatTheChoirKnows(check);
        theSeasonOfTheDay(check);
        aRightToSingOnIt(check);
        lessThan28DaysAway(check);
        noOtherServiceOfTheChoir(check);
        inTheFewestServices(check);
        ofAllChoirsAndDays(check);
        ofSeveralTheLowest(check);
        whereItIsWithoutAHymnAtFirst(check);
        aheadOfToday(check);
        noSuchService(check);
        check.end();
    }

    /** A press whose hymns have all seasons and rights to be sung on all days, and which all choirs know. */
    private static CanticlePress pressOf(int hymns) {
        CanticlePress press = new CanticlePress();
        for (int hymn = 0; hymn < hymns; hymn++) {
            tell(press, hymn);
        }
        return press;
    }

    private static void tell(CanticlePress press, int hymn) {
        press.hymn(hymn % 5, 15, 1, 0);
        press.right(hymn, SING, 0, 1459);
        for (int choir = 0; choir < 4; choir++) {
            press.learn(choir, hymn);
        }
    }

    private static int hymnOn(CanticlePress press, int choir, int day) {
        return press.hymnOf(press.service(choir, day));
    }

    private static void passTo(CanticlePress press, int day) {
        int today = 0;
        while (today < day) {
            today = press.pass(Math.min(200, day - today));
        }
    }

    /** "each knows some hymns, none at first" */
    private static void noneAtFirst(Check check) {
        CanticlePress press = new CanticlePress();
        for (int hymn = 0; hymn < 16; hymn++) {
            press.hymn(0, 15, 1, 0);
            press.right(hymn, SING, 0, 1459);
        }
        for (int choir = 0; choir < 4; choir++) {
            check.same("the choir " + choir + " sings none", hymnOn(press, choir, 10), NONE);
            for (int hymn = 0; hymn < 16; hymn++) {
                check.same("the choir " + choir + " learns " + hymn, press.learn(choir, hymn), true);
            }
        }
    }

    /** "choir: 0 to 3"; "Throws IndexOutOfBoundsException if there is no such choir" */
    private static void noSuchChoir(Check check) {
        CanticlePress press = pressOf(1);
        for (int choir : new int[] {-1, 4, MIN, MAX}) {
            check.index("learn of the choir " + choir, () -> press.learn(choir, 0));
            check.index("service of the choir " + choir, () -> press.service(choir, 5));
        }
        check.same("the first choir's", press.service(0, 5), 0);
        check.same("the last choir's", press.service(3, 5), 1);
        check.same("the first choir forgets", press.learn(0, 0), false);
        check.same("the last choir forgets", press.learn(3, 0), false);
    }

    /** "Throws IndexOutOfBoundsException if there is no such ... hymn" */
    private static void noSuchHymn(Check check) {
        CanticlePress press = new CanticlePress();
        for (int hymns = 0; hymns <= 16; hymns++) {
            for (int hymn : new int[] {-1, hymns, MIN, MAX}) {
                check.index("learn of " + hymn, () -> press.learn(0, hymn));
            }
            if (hymns > 0) {
                check.same("learn of the last", press.learn(0, hymns - 1), true);
            }
            if (hymns < 16) {
                press.hymn(0, 15, 1, 0);
            }
        }
    }

    /** "Lets a choir know a hymn, or forget it, if it knows it"; "Returns whether it knows it then." */
    private static void orForgets(Check check) {
        CanticlePress press = new CanticlePress();
        for (int hymn = 0; hymn < 16; hymn++) {
            press.hymn(0, 15, 1, 0);
        }
        for (int choir = 0; choir < 4; choir++) {
            for (int hymn = 0; hymn < 16; hymn++) {
                String what = "the choir " + choir + " and the hymn " + hymn;
                check.same(what, press.learn(choir, hymn), true);
                check.same(what + ", once more", press.learn(choir, hymn), false);
                check.same(what + ", a third time", press.learn(choir, hymn), true);
            }
        }
        for (int choir = 0; choir < 4; choir++) {
            for (int hymn = 0; hymn < 16; hymn++) {
                check.same("each one is known till then", press.learn(choir, hymn), false);
            }
        }
    }

    /** "services stay" */
    private static void servicesStay(Check check) {
        CanticlePress press = pressOf(2);
        press.service(0, 5);
        press.service(0, 6);
        press.service(0, 7);
        press.learn(0, 0);
        press.learn(0, 1);
        check.same("with a forgotten hymn", press.hymnOf(0), 0);
        check.same("with another forgotten hymn", press.hymnOf(1), 1);
        check.same("without a hymn", press.hymnOf(2), NONE);
        tell(press, 2);
        check.same("with a hymn, though another is learnt", press.hymnOf(0), 0);
        check.same("without a hymn, though one is learnt", press.hymnOf(2), NONE);
    }

    /** "Services. At most 40"; "Throws IllegalStateException if there are 40 services" */
    private static void atMost40Services(Check check) {
        CanticlePress press = pressOf(1);
        for (int service = 0; service < 39; service++) {
            press.service(service % 3, service * 28);
        }
        check.same("the 40th", press.service(3, 1459), 39);
        check.same("its hymn", press.hymnOf(39), 0);
        check.state("the 41st", () -> press.service(3, 1000));
        check.state("the 41st, like the 40th", () -> press.service(3, 1459));
        check.index("hymnOf the 41st", () -> press.hymnOf(40));
        check.index("plan of the 41st", () -> press.plan(40));
        check.same("plan of the 40th", press.plan(39), 0);
        passTo(press, 1459);
        check.same("all have a hymn", press.silent(), 0);
        check.state("past ones are still told", () -> press.service(0, 1459));
    }

    /** "numbered from 0"; "Returns its number." */
    private static void numberedFrom0(Check check) {
        CanticlePress press = pressOf(1);
        check.same("the first", press.service(2, 20), 0);
        check.same("the second, earlier and of a lower choir", press.service(0, 10), 1);
        check.state("a refused one", () -> press.service(0, 10));
        check.argument("another refused one", () -> press.service(0, -1));
        check.same("the third", press.service(1, 20), 2);
    }

    /** "day: from today on"; "Throws IllegalArgumentException if day is out of its range" */
    private static void fromTodayOn(Check check) {
        for (int today : new int[] {0, 1, 365, 1458, 1459}) {
            CanticlePress press = pressOf(1);
            passTo(press, today);
            for (int day : new int[] {today - 1, -1, MIN}) {
                check.argument("the day " + day + " on " + today, () -> press.service(0, day));
            }
            check.same("today, " + today, press.service(0, today), 0);
            check.same("its hymn", press.hymnOf(0), 0);
        }
    }

    /** "to 1459" */
    private static void to1459(Check check) {
        CanticlePress press = pressOf(1);
        check.same("the day 1459", press.service(0, 1459), 0);
        check.same("its hymn", press.hymnOf(0), 0);
        for (int day : new int[] {1460, 1461, MAX}) {
            check.argument("the day " + day, () -> press.service(1, day));
        }
        check.same("the next one", press.service(1, 1459), 1);
    }

    /** "Throws IllegalStateException if ... the choir has one on that day" */
    private static void oneOnThatDay(Check check) {
        CanticlePress press = pressOf(1);
        press.service(1, 50);
        press.service(1, 60);
        check.same("the second is without a hymn", press.hymnOf(1), NONE);
        check.state("again on the day 50", () -> press.service(1, 50));
        check.state("again on the day 60", () -> press.service(1, 60));
        check.same("a day ahead", press.service(1, 49), 2);
        check.same("a day behind", press.service(1, 51), 3);
        check.same("another choir, on the day 50", press.service(0, 50), 4);
        check.same("a choir of a higher number, on the day 50", press.service(2, 50), 5);
        press.pass(50);
        check.state("again today", () -> press.service(1, 50));
    }

    /** "if there is none, it has none"; "NONE if it has none" */
    private static void itHasNone(Check check) {
        CanticlePress press = new CanticlePress();
        check.same("a service where no hymn is told", press.service(0, 0), 0);
        check.same("its hymn", press.hymnOf(0), NONE);
        check.same("planned anew", press.plan(0), NONE);
        tell(press, 0);
        check.same("till it is planned anew", press.hymnOf(0), NONE);
        check.same("planned anew with a hymn", press.plan(0), 0);
        press.learn(0, 0);
        check.same("planned anew without one", press.plan(0), NONE);
        check.same("hymnOf then", press.hymnOf(0), NONE);
    }

    /** "of the hymns that the choir knows" */
    private static void thatTheChoirKnows(Check check) {
        for (int choir = 0; choir < 4; choir++) {
            CanticlePress press = new CanticlePress();
            for (int hymn = 0; hymn < 16; hymn++) {
                press.hymn(0, 15, 1, 0);
                press.right(hymn, SING, 0, 1459);
            }
            press.learn(choir, 15);
            press.learn((choir + 1) % 4, 0);
            check.same("the last hymn, of the choir " + choir, hymnOn(press, choir, 0), 15);
            check.same("the first hymn, of the next choir", hymnOn(press, (choir + 1) % 4, 0), 0);
            check.same("a choir that knows none", hymnOn(press, (choir + 2) % 4, 0), NONE);
            press.learn(choir, 15);
            check.same("a hymn that is forgotten", hymnOn(press, choir, 100), NONE);
        }
    }

    /** "its season is what remains, divided by 92, rounded down, 0 to 3"; "that have the season of the day" */
    private static void theSeasonOfTheDay(Check check) {
        int[] firsts = {0, 92, 184, 276, 365};
        for (int year = 0; year < 4; year++) {
            for (int season = 0; season < 4; season++) {
                int first = 365 * year + firsts[season];
                int last = Math.min(1459, 365 * year + firsts[season + 1] - 1);
                inSeason(check, 1 << season, new int[] {first, last}, true);
                inSeason(check, 15 - (1 << season), new int[] {first, last}, false);
            }
        }
        inSeason(check, 1, new int[] {92, 364, 457, 729}, false);
        inSeason(check, 8, new int[] {275, 365, 640, 730}, false);
    }

    private static void inSeason(Check check, int seasons, int[] days, boolean has) {
        for (int day : days) {
            CanticlePress press = new CanticlePress();
            press.hymn(0, seasons, 1, 0);
            press.right(0, SING, 0, 1459);
            press.learn(0, 0);
            check.same("the seasons " + seasons + " on the day " + day, hymnOn(press, 0, day), has ? 0 : NONE);
        }
    }

    /** "and a right to SING on it" */
    private static void aRightToSingOnIt(Check check) {
        CanticlePress press = new CanticlePress();
        press.hymn(0, 15, 1, 0);
        press.right(0, SING, 100, 100);
        press.right(0, PRINT, 0, 1459);
        press.right(0, SING, 200, 300);
        for (int choir = 0; choir < 4; choir++) {
            press.learn(choir, 0);
        }
        check.same("a day ahead of it", hymnOn(press, 0, 99), NONE);
        check.same("on its day", hymnOn(press, 1, 100), 0);
        check.same("a day behind it", hymnOn(press, 2, 101), NONE);
        check.same("a day ahead of the other", hymnOn(press, 0, 199), NONE);
        check.same("on its first day", hymnOn(press, 1, 200), 0);
        check.same("on its last day", hymnOn(press, 2, 300), 0);
        check.same("a day behind the other", hymnOn(press, 3, 301), NONE);
    }

    /** "that no other service of the choir has on a day less than 28 days away" */
    private static void lessThan28DaysAway(Check check) {
        for (int away : new int[] {1, 2, 14, 26, 27, 28, 29, 56, 365}) {
            int due = away < 28 ? NONE : 0;
            CanticlePress behind = pressOf(1);
            behind.service(0, 500);
            check.same(away + " days behind", hymnOn(behind, 0, 500 + away), due);
            CanticlePress ahead = pressOf(1);
            ahead.service(0, 500);
            check.same(away + " days ahead", hymnOn(ahead, 0, 500 - away), due);
        }
        CanticlePress edges = pressOf(1);
        check.same("on the first day", hymnOn(edges, 0, 0), 0);
        check.same("27 days behind the first day", hymnOn(edges, 0, 27), NONE);
        check.same("28 days behind the first day", hymnOn(edges, 0, 28), 0);
        check.same("on the last day", hymnOn(edges, 0, 1459), 0);
        check.same("27 days ahead of the last day", hymnOn(edges, 0, 1432), NONE);
        check.same("28 days ahead of the last day", hymnOn(edges, 0, 1431), 0);
        CanticlePress between = pressOf(1);
        between.service(0, 100);
        between.service(0, 156);
        check.same("28 days from both", hymnOn(between, 0, 128), 0);
        check.same("28 behind the second", hymnOn(between, 0, 184), 0);
        check.same("27 from one", hymnOn(between, 0, 73), NONE);
    }

    /** "no other service of the choir": other choirs' services and its own do not count, past ones do */
    private static void noOtherServiceOfTheChoir(Check check) {
        CanticlePress press = pressOf(1);
        for (int choir = 0; choir < 4; choir++) {
            check.same("of the choir " + choir, hymnOn(press, choir, 100), 0);
        }
        for (int service = 0; service < 4; service++) {
            check.same("planned anew on its own day", press.plan(service), 0);
        }
        passTo(press, 110);
        check.same("a past one counts", hymnOn(press, 0, 127), NONE);
        check.same("a past one 28 days away", hymnOn(press, 0, 128), 0);
    }

    /** "it has the one that is in the fewest services" */
    private static void inTheFewestServices(Check check) {
        CanticlePress press = pressOf(3);
        int[] due = {0, 1, 2, 0, 1, 2};
        for (int k = 0; k < 6; k++) {
            check.same("the service " + k, hymnOn(press, 0, 100 * k), due[k]);
        }
        press.learn(1, 2);
        check.same("of those that the choir knows", hymnOn(press, 1, 0), 0);
        check.same("one use fewer: 1", hymnOn(press, 1, 600), 1);
        check.same("of all, 2 is in one fewer", hymnOn(press, 2, 0), 2);
    }

    /** "of all choirs and days" */
    private static void ofAllChoirsAndDays(Check check) {
        CanticlePress press = pressOf(2);
        check.same("the first day", hymnOn(press, 3, 0), 0);
        check.same("another choir, the last day", hymnOn(press, 0, 1459), 1);
        check.same("equal", hymnOn(press, 1, 700), 0);
        passTo(press, 1459);
        check.same("past ones count", hymnOn(press, 2, 1459), 1);
        check.same("equal again", hymnOn(press, 1, 1459), 0);
    }

    /** "of several the lowest" */
    private static void ofSeveralTheLowest(Check check) {
        CanticlePress press = pressOf(16);
        for (int k = 0; k < 32; k++) {
            check.same("the service " + k, hymnOn(press, k % 4, 28 * (k / 4)), k % 16);
        }
        check.same("all are in two", hymnOn(press, 0, 1000), 0);
        press.learn(0, 1);
        check.same("the lowest that it knows", hymnOn(press, 0, 1100), 2);
    }

    /** "To plan it is this, where it is without a hymn at first": its own hymn does not count */
    private static void whereItIsWithoutAHymnAtFirst(Check check) {
        CanticlePress press = pressOf(2);
        press.service(0, 10);
        press.service(1, 10);
        check.same("0 is in one without it, 1 in one with it", press.plan(1), 1);
        check.same("equal without its own", press.plan(0), 0);
        press.service(2, 10);
        check.same("0 is in two", press.hymnOf(2), 0);
        check.same("both are in one without its own", press.plan(2), 0);
        check.same("the first: 0 and 1 are in one without its own", press.plan(0), 0);
        press.service(3, 10);
        check.same("1 is in two", press.hymnOf(3), 1);
        check.same("0 is in one without its own", press.plan(0), 0);
        press.learn(3, 1);
        check.same("a forgotten hymn goes", press.plan(3), 0);
        check.same("0 is in two without its own, 1 in one", press.plan(0), 1);
    }

    /** "Throws IllegalStateException if its day is ahead of today" */
    private static void aheadOfToday(Check check) {
        for (int day : new int[] {0, 1, 200, 1458}) {
            CanticlePress press = pressOf(1);
            press.service(0, day);
            press.service(1, day + 1);
            passTo(press, day);
            check.same("its day is today, " + day, press.plan(0), 0);
            press.learn(0, 0);
            press.learn(1, 0);
            press.pass(1);
            check.state("its day was yesterday", () -> press.plan(0));
            check.same("its hymn stays", press.hymnOf(0), 0);
            check.same("the next one's day is today", press.plan(1), NONE);
        }
    }

    /** "Throws IndexOutOfBoundsException if there is no such service" */
    private static void noSuchService(Check check) {
        CanticlePress press = pressOf(1);
        for (int services = 0; services <= 40; services++) {
            for (int service : new int[] {-1, services}) {
                check.index("plan of " + service, () -> press.plan(service));
                check.index("hymnOf " + service, () -> press.hymnOf(service));
            }
            if (services > 0) {
                check.same("plan of the last of " + services, press.plan(services - 1), 0);
                check.same("hymnOf the last of " + services, press.hymnOf(services - 1), 0);
            }
            if (services < 40) {
                press.service(services % 4, 28 * (services / 4));
            }
        }
        for (int service : new int[] {MIN, 41, MAX}) {
            check.index("plan of " + service, () -> press.plan(service));
            check.index("hymnOf " + service, () -> press.hymnOf(service));
        }
    }
}
