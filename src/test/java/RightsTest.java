/** Promises 7 to 9: right, end and hasRight. */
public final class RightsTest {
    private static final int SING = CanticlePress.SING;
    private static final int PRINT = CanticlePress.PRINT;
    private static final int NONE = CanticlePress.NONE;
    private static final int MIN = Integer.MIN_VALUE;
    private static final int MAX = Integer.MAX_VALUE;

    public static void main(String[] args) {
        Check check = new Check();
        days(check);
        wrongRights(check);
        wrongQuestions(check);
        ended(check);
        endedAheadOfItsFirstDay(check);
        wrongEnds(check);
        plannedAnew(check);
        plannedAnewTogether(check);
        allPlannedAnew(check);
        notPlannedAnew(check);
        pastStays(check);
        check.end();
    }

    private static void days(Check check) {
        CanticlePress press = new CanticlePress();
        press.hymn(0, 15, 1, 0);
        press.hymn(0, 15, 1, 0);
        check.same("the first right", press.right(0, SING, 10, 20), 0);
        check.same("a right of a day", press.right(0, SING, 30, 30), 1);
        check.same("a right to print", press.right(0, PRINT, 0, 1459), 2);
        check.same("a right on the last day", press.right(1, SING, 1459, 1459), 3);
        int[] days = {9, 10, 15, 20, 21, 29, 30, 31, 0, 1459};
        boolean[] due = {false, true, true, true, false, false, true, false, false, false};
        for (int k = 0; k < days.length; k++) {
            check.same("hymn 0 to sing on " + days[k], press.hasRight(0, SING, days[k]), due[k]);
            check.same("hymn 0 to print on " + days[k], press.hasRight(0, PRINT, days[k]), true);
            check.same("hymn 1 to print on " + days[k], press.hasRight(1, PRINT, days[k]), false);
        }
        check.same("hymn 1 on the last day", press.hasRight(1, SING, 1459), true);
        check.same("hymn 1 ahead of it", press.hasRight(1, SING, 1458), false);
        press.pass(100);
        check.same("a right in the past", press.right(1, SING, 0, 5), 4);
        check.same("hymn 1 in the past", press.hasRight(1, SING, 5), true);
        check.same("hymn 0 in the past", press.hasRight(0, SING, 15), true);
    }

    private static void wrongRights(Check check) {
        CanticlePress press = new CanticlePress();
        press.hymn(0, 15, 1, 0);
        press.right(0, PRINT, 3, 9);
        String before = Snapshot.of(press, 0, 0, 5, 10, 1459);
        for (int hymn : new int[] {-1, 1, 16, MIN, MAX}) {
            check.index("right for hymn " + hymn, () -> press.right(hymn, SING, 0, 0));
        }
        for (int use : new int[] {-1, 2, MIN, MAX}) {
            check.index("right to use " + use, () -> press.right(0, use, 0, 0));
        }
        for (int first : new int[] {-1, 1460, MIN, MAX}) {
            check.argument("right from " + first, () -> press.right(0, SING, first, 1459));
        }
        for (int last : new int[] {9, -1, 1460, MIN, MAX}) {
            check.argument("right from 10 to " + last, () -> press.right(0, SING, 10, last));
        }
        check.argument("first alone is wrong", () -> press.right(0, SING, -5, -5));
        check.argument("both are wrong", () -> press.right(0, SING, 1460, 1460));
        check.index("no use goes ahead of no day", () -> press.right(0, 2, -1, -1));
        check.same("wrong rights change nothing", Snapshot.of(press, 0, 0, 5, 10, 1459), before);
        for (int right = 1; right < 40; right++) {
            check.same("right " + right, press.right(0, SING, right, right), right);
        }
        check.state("the 41st right", () -> press.right(0, SING, 100, 100));
        check.same("no 41st right", press.hasRight(0, SING, 100), false);
        check.index("no hymn goes ahead of 40 rights", () -> press.right(1, SING, 0, 0));
        check.index("no use goes ahead of 40 rights", () -> press.right(0, -1, 0, 0));
        check.argument("no day goes ahead of 40 rights", () -> press.right(0, SING, 1, 0));
        check.same("the last right", press.hasRight(0, SING, 39), true);
        check.same("the last right ends", press.end(39, 38), 0);
        check.same("the last right has ended", press.hasRight(0, SING, 39), false);
        check.state("an ended right is still a right", () -> press.right(0, SING, 100, 100));
    }

    private static void wrongQuestions(Check check) {
        CanticlePress press = new CanticlePress();
        check.index("no hymn at all", () -> press.hasRight(0, SING, 0));
        press.hymn(0, 15, 1, 0);
        for (int hymn : new int[] {-1, 1, 16, MIN, MAX}) {
            check.index("hasRight of hymn " + hymn, () -> press.hasRight(hymn, SING, 0));
        }
        for (int use : new int[] {-1, 2, MIN, MAX}) {
            check.index("hasRight to use " + use, () -> press.hasRight(0, use, 0));
        }
        for (int day : new int[] {-1, 1460, MIN, MAX}) {
            check.argument("hasRight on " + day, () -> press.hasRight(0, SING, day));
        }
        check.index("no hymn goes ahead of no day", () -> press.hasRight(1, SING, -1));
        check.index("no use goes ahead of no day", () -> press.hasRight(0, 2, -1));
        check.same("on the day 0", press.hasRight(0, SING, 0), false);
        check.same("on the last day", press.hasRight(0, SING, 1459), false);
    }

    private static void ended(Check check) {
        CanticlePress press = new CanticlePress();
        press.hymn(0, 15, 1, 0);
        press.right(0, SING, 0, 1459);
        press.right(0, SING, 40, 60);
        press.pass(50);
        check.same("ends", press.end(0, 70), 0);
        check.same("on its last day", press.hasRight(0, SING, 70), true);
        check.same("behind it", press.hasRight(0, SING, 71), false);
        check.same("ends again", press.end(0, 49), 0);
        check.same("by the other right", press.hasRight(0, SING, 60), true);
        check.same("behind the other right", press.hasRight(0, SING, 61), false);
        check.same("the other ends", press.end(1, 49), 0);
        check.same("on the day ahead of today", press.hasRight(0, SING, 49), true);
        check.same("today", press.hasRight(0, SING, 50), false);
    }

    private static void endedAheadOfItsFirstDay(Check check) {
        CanticlePress press = new CanticlePress();
        press.hymn(0, 15, 1, 0);
        press.right(0, SING, 0, 5);
        press.right(0, PRINT, 20, 30);
        check.same("ends on the day -1", press.end(0, -1), 0);
        check.same("no day 0", press.hasRight(0, SING, 0), false);
        check.same("ends ahead of its first day", press.end(1, 10), 0);
        for (int day : new int[] {9, 10, 11, 19, 20, 21, 30}) {
            check.same("no day " + day, press.hasRight(0, PRINT, day), false);
        }
        check.same("ends once more", press.end(1, 9), 0);
        check.state("but not on the same day", () -> press.end(1, 9));
    }

    private static void wrongEnds(Check check) {
        CanticlePress press = new CanticlePress();
        check.index("no right at all", () -> press.end(0, 0));
        press.hymn(0, 15, 1, 0);
        press.right(0, SING, 0, 300);
        press.right(0, PRINT, 0, 50);
        check.argument("ahead of -1 on the day 0", () -> press.end(0, -2));
        press.pass(100);
        String before = Snapshot.of(press, 0, 0, 50, 51, 300, 301);
        for (int right : new int[] {-1, 2, 40, MIN, MAX}) {
            check.index("end of right " + right, () -> press.end(right, 200));
        }
        for (int last : new int[] {98, 0, -1, 1460, MIN, MAX}) {
            check.argument("end on " + last, () -> press.end(0, last));
        }
        for (int last : new int[] {300, 301, 1459}) {
            check.state("not later than " + last, () -> press.end(0, last));
        }
        check.state("a right that is over", () -> press.end(1, 99));
        check.argument("no day goes ahead of a right that is over", () -> press.end(1, 98));
        check.index("no right goes ahead of no day", () -> press.end(2, 98));
        check.same("wrong ends change nothing", Snapshot.of(press, 0, 0, 50, 51, 300, 301), before);
        check.same("one day earlier", press.end(0, 299), 0);
        check.same("the day ahead of today", press.end(0, 99), 0);
    }

    private static void plannedAnew(Check check) {
        CanticlePress press = new CanticlePress();
        press.hymn(0, 15, 1, 0);
        press.hymn(1, 15, 1, 0);
        press.right(0, SING, 0, 1459);
        press.learn(0, 0);
        press.learn(1, 0);
        press.service(0, 10);
        press.service(0, 50);
        press.service(1, 90);
        press.service(0, 91);
        press.right(1, SING, 0, 60);
        press.learn(0, 1);
        press.pass(20);
        check.same("three services have lost their right", press.end(0, 19), 3);
        check.same("the past one stays", press.hymnOf(0), 0);
        check.same("one has another hymn", press.hymnOf(1), 1);
        check.same("a choir that knows no other", press.hymnOf(2), NONE);
        check.same("a day without another right", press.hymnOf(3), NONE);
    }

    /** The services that lost their right stand in nobody's way and count nowhere, even those planned later. */
    private static void plannedAnewTogether(Check check) {
        CanticlePress press = new CanticlePress();
        for (int hymn = 0; hymn < 3; hymn++) {
            press.hymn(0, 15, 1, 0);
        }
        press.right(0, SING, 0, 200);
        press.right(1, SING, 0, 200);
        press.right(2, SING, 0, 200);
        press.learn(0, 0);
        press.service(0, 100);
        press.service(0, 140);
        press.learn(0, 0);
        press.learn(0, 1);
        press.service(0, 60);
        press.service(0, 20);
        press.learn(0, 2);
        press.right(0, SING, 105, 120);
        check.same("both are planned anew", press.end(0, 0), 2);
        check.same("fewest: the hymn 2", press.hymnOf(0), 2);
        check.same("then the hymn 2 again, it is in one", press.hymnOf(1), 2);

        CanticlePress rest = new CanticlePress();
        rest.hymn(0, 15, 1, 0);
        rest.hymn(0, 15, 1, 0);
        rest.right(0, SING, 0, 1459);
        rest.right(0, SING, 20, 20);
        rest.learn(2, 0);
        rest.service(2, 21);
        rest.service(2, 0);
        check.same("the second one lacks rest", rest.hymnOf(1), NONE);
        rest.service(2, 60);
        check.same("of three, two had the hymn", rest.end(0, 20), 2);
        check.same("all without a hymn", rest.hymnOf(0) + rest.hymnOf(1) + rest.hymnOf(2), -3);
    }

    private static void allPlannedAnew(Check check) {
        CanticlePress press = new CanticlePress();
        press.hymn(0, 15, 1, 0);
        press.right(0, SING, 0, 1459);
        for (int choir = 0; choir < 4; choir++) {
            press.learn(choir, 0);
        }
        for (int service = 0; service < 40; service++) {
            press.service(service % 4, 28 * (service / 4));
        }
        check.same("the last four", press.end(0, 251), 4);
        for (int service = 0; service < 40; service++) {
            check.same("hymn of " + service, press.hymnOf(service), service < 36 ? 0 : NONE);
        }
        check.same("all others", press.end(0, -1), 36);
        for (int service = 0; service < 40; service++) {
            check.same("hymn of " + service, press.hymnOf(service), NONE);
        }
    }

    private static void notPlannedAnew(Check check) {
        CanticlePress press = new CanticlePress();
        press.hymn(0, 15, 1, 0);
        press.hymn(1, 15, 1, 0);
        press.right(0, SING, 0, 100);
        press.right(0, SING, 0, 40);
        press.right(0, PRINT, 0, 100);
        press.learn(0, 0);
        press.service(0, 30);
        press.service(0, 80);
        press.service(1, 80);
        press.right(1, SING, 0, 1459);
        press.learn(0, 0);
        press.learn(0, 1);
        press.learn(1, 1);
        check.same("a right to print plans nothing", press.end(2, 3), 0);
        check.same("another right still has the day", press.end(1, 10), 0);
        check.same("its last day is the service's", press.end(0, 80), 0);
        check.same("a forgotten hymn stays", press.hymnOf(1), 0);
        check.same("a service without a hymn is not planned anew", press.hymnOf(2), NONE);
        check.same("one has lost its right", press.end(0, 79), 1);
        check.same("it has another hymn", press.hymnOf(1), 1);
        check.same("the first one keeps its hymn", press.hymnOf(0), 0);
        check.same("the third one is still without", press.hymnOf(2), NONE);
    }

    private static void pastStays(Check check) {
        CanticlePress press = new CanticlePress();
        press.hymn(0, 15, 1, 0);
        press.right(0, SING, 0, 1459);
        press.learn(0, 0);
        press.service(0, 99);
        press.learn(1, 0);
        press.service(1, 100);
        press.pass(100);
        check.same("today's service is planned anew", press.end(0, 99), 1);
        check.same("yesterday's stays", press.hymnOf(0), 0);
        check.same("today's is without", press.hymnOf(1), NONE);
    }
}
