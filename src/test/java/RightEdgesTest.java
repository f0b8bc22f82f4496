/** The sentences of the document on rights and printing that name an edge, each with a test of its own. */
public final class RightEdgesTest {
    private static final int NONE = CanticlePress.NONE;
    private static final int SING = CanticlePress.SING;
    private static final int PRINT = CanticlePress.PRINT;
    private static final int MIN = Integer.MIN_VALUE;
    private static final int MAX = Integer.MAX_VALUE;

    public static void main(String[] args) {
        Check check = new Check();
        noRightYet(check);
        atMost40Rights(check);
        numberedFrom0(check);
        noSuchHymn(check);
        noSuchUse(check);
        firstDays(check);
        lastDays(check);
        fromAFirstDayToALastOne(check);
        oneOfItsRights(check);
        daysOfQuestions(check);
        lastBecomesEarlier(check);
        lastIsNotLater(check);
        theDayAheadOfToday(check);
        minus1OnTheDay0(check);
        to1459(check);
        endedOnItsFirstDay(check);
        endedAheadOfItsFirstDay(check);
        noSuchRight(check);
        noneIsPlannedAnew(check);
        fromTodayOn(check);
        onItsDayAnyMore(check);
        byRisingNumbers(check);
        withoutHymnsAtFirst(check);
        all40ArePlannedAnew(check);
        copies(check);
        aRightToPrintToday(check);
        pagesOfAllCopies(check);
        years(check);
        daysOfYears(check);
        check.end();
    }

    private static CanticlePress pressOf(int hymns) {
        CanticlePress press = new CanticlePress();
        for (int hymn = 0; hymn < hymns; hymn++) {
            press.hymn(hymn % 5, 15, 1, 0);
        }
        return press;
    }

    private static void passTo(CanticlePress press, int day) {
        int today = 0;
        while (today < day) {
            today = press.pass(Math.min(200, day - today));
        }
    }

    /** Nothing told yet: a new hymn has no right, to no use and on no day. */
    private static void noRightYet(Check check) {
        CanticlePress press = pressOf(1);
        for (int day : new int[] {0, 1, 365, 1458, 1459}) {
            check.same("to sing on " + day, press.hasRight(0, SING, day), false);
            check.same("to print on " + day, press.hasRight(0, PRINT, day), false);
        }
        check.index("the right 0", () -> press.end(0, 5));
        check.state("to print today", () -> press.print(0, 1));
        check.same("printed", press.printed(0, 0), 0);
    }

    /** "Rights. At most 40"; "Throws IllegalStateException if there are 40 rights" */
    private static void atMost40Rights(Check check) {
        CanticlePress press = pressOf(16);
        for (int right = 0; right < 39; right++) {
            press.right(right % 16, SING, right, right);
        }
        check.same("the 40th", press.right(15, PRINT, 1459, 1459), 39);
        check.state("the 41st", () -> press.right(15, PRINT, 700, 800));
        check.state("the 41st, like the 40th", () -> press.right(15, PRINT, 1459, 1459));
        check.same("the 40th stays", press.hasRight(15, PRINT, 1459), true);
        check.same("the 41st is none", press.hasRight(15, PRINT, 750), false);
        check.same("the 40th can end", press.end(39, 1458), 0);
        check.same("and has ended", press.hasRight(15, PRINT, 1459), false);
        check.index("the 41st can't", () -> press.end(40, 5));
        check.state("ended ones are still told", () -> press.right(0, SING, 0, 0));
    }

    /** "numbered from 0"; "Returns its number." */
    private static void numberedFrom0(Check check) {
        CanticlePress press = pressOf(2);
        check.same("the first", press.right(1, PRINT, 5, 6), 0);
        check.same("the second, the same again", press.right(1, PRINT, 5, 6), 1);
        check.argument("a refused one", () -> press.right(1, PRINT, 5, 4));
        check.same("the third", press.right(0, SING, 5, 6), 2);
    }

    /** "Throws IndexOutOfBoundsException if there is no such hymn", as many as are told */
    private static void noSuchHymn(Check check) {
        CanticlePress press = new CanticlePress();
        for (int hymns = 0; hymns <= 16; hymns++) {
            for (int hymn : new int[] {-1, hymns}) {
                check.index("right of " + hymn, () -> press.right(hymn, SING, 0, 0));
                check.index("hasRight of " + hymn, () -> press.hasRight(hymn, SING, 0));
                check.index("print of " + hymn, () -> press.print(hymn, 1));
                check.index("printed of " + hymn, () -> press.printed(hymn, 0));
            }
            if (hymns > 0) {
                int last = hymns - 1;
                check.same("right of the last", press.right(last, PRINT, 0, last), last);
                check.same("hasRight of the last", press.hasRight(last, PRINT, last), true);
                check.same("print of the last", press.print(last, 5), 5);
                check.same("printed of the last", press.printed(last, 0), 5);
            }
            if (hymns < 16) {
                press.hymn(0, 15, 1, 0);
            }
        }
    }

    /** "use: SING or PRINT"; "Throws IndexOutOfBoundsException if there is no such ... use" */
    private static void noSuchUse(Check check) {
        CanticlePress press = pressOf(1);
        for (int use : new int[] {-1, 2, 3, MIN, MAX}) {
            check.index("right to " + use, () -> press.right(0, use, 0, 0));
            check.index("hasRight to " + use, () -> press.hasRight(0, use, 0));
        }
        check.same("to SING", press.right(0, SING, 0, 9), 0);
        check.same("not to PRINT by that", press.hasRight(0, PRINT, 0), false);
        check.same("to PRINT", press.right(0, PRINT, 5, 5), 1);
        check.same("not to SING by that", press.hasRight(0, SING, 10), false);
        check.same("to SING on the day 5", press.hasRight(0, SING, 5), true);
        check.same("to PRINT on the day 5", press.hasRight(0, PRINT, 5), true);
        check.same("to PRINT on the day 6", press.hasRight(0, PRINT, 6), false);
    }

    /** "first: its first day, 0 to 1459" */
    private static void firstDays(Check check) {
        CanticlePress press = pressOf(1);
        check.same("the least", press.right(0, SING, 0, 0), 0);
        check.same("the most", press.right(0, PRINT, 1459, 1459), 1);
        check.same("from the day 0", press.hasRight(0, SING, 0), true);
        check.same("on the day 1459", press.hasRight(0, PRINT, 1459), true);
        for (int first : new int[] {-1, MIN}) {
            check.argument("from " + first, () -> press.right(0, SING, first, 1459));
        }
        for (int first : new int[] {1460, MAX}) {
            check.argument("from " + first, () -> press.right(0, SING, first, first));
        }
        check.same("the next one", press.right(0, SING, 0, 0), 2);
    }

    /** "last: its last day, first to 1459" */
    private static void lastDays(Check check) {
        for (int first : new int[] {0, 1, 700, 1458, 1459}) {
            CanticlePress press = pressOf(1);
            check.same("the least", press.right(0, SING, first, first), 0);
            check.same("the most", press.right(0, SING, first, 1459), 1);
            for (int last : new int[] {first - 1, 1460, -1, MIN, MAX}) {
                check.argument("from " + first + " to " + last, () -> press.right(0, SING, first, last));
            }
            check.same("the next one", press.right(0, SING, first, first), 2);
        }
    }

    /** "A right is for a hymn, to SING or to PRINT, from a first day to a last one." */
    private static void fromAFirstDayToALastOne(Check check) {
        CanticlePress press = pressOf(2);
        press.right(0, SING, 100, 102);
        press.right(1, PRINT, 50, 50);
        int[] days = {99, 100, 101, 102, 103};
        boolean[] due = {false, true, true, true, false};
        for (int k = 0; k < days.length; k++) {
            check.same("on the day " + days[k], press.hasRight(0, SING, days[k]), due[k]);
            check.same("of the other hymn", press.hasRight(1, SING, days[k]), false);
        }
        check.same("ahead of one day", press.hasRight(1, PRINT, 49), false);
        check.same("one day", press.hasRight(1, PRINT, 50), true);
        check.same("behind one day", press.hasRight(1, PRINT, 51), false);
    }

    /** "A hymn has a right to a use on a day if one of its rights to that use has the day." */
    private static void oneOfItsRights(Check check) {
        CanticlePress press = pressOf(1);
        press.right(0, SING, 10, 20);
        press.right(0, SING, 21, 30);
        press.right(0, SING, 32, 40);
        press.right(0, SING, 15, 25);
        for (int day = 10; day <= 40; day++) {
            check.same("on the day " + day, press.hasRight(0, SING, day), day != 31);
        }
        check.same("ahead of the first", press.hasRight(0, SING, 9), false);
        check.same("behind the last", press.hasRight(0, SING, 41), false);
        press.end(0, -1);
        check.same("one of them has ended", press.hasRight(0, SING, 14), false);
        check.same("by the one that overlaps", press.hasRight(0, SING, 15), true);
    }

    /** "day: 0 to 1459"; "Throws IllegalArgumentException if day is out of its range" */
    private static void daysOfQuestions(Check check) {
        CanticlePress press = pressOf(1);
        press.right(0, SING, 0, 1459);
        check.same("the least", press.hasRight(0, SING, 0), true);
        check.same("the most", press.hasRight(0, SING, 1459), true);
        for (int day : new int[] {-1, 1460, MIN, MAX}) {
            check.argument("on " + day, () -> press.hasRight(0, SING, day));
            check.argument("on " + day + ", to print", () -> press.hasRight(0, PRINT, day));
        }
        passTo(press, 1459);
        check.same("the least, on the last day", press.hasRight(0, SING, 0), true);
        check.same("the most, on the last day", press.hasRight(0, SING, 1459), true);
    }

    /** "A right can be ended: its last day becomes an earlier one" */
    private static void lastBecomesEarlier(Check check) {
        CanticlePress press = pressOf(1);
        press.right(0, SING, 10, 100);
        check.same("by a day", press.end(0, 99), 0);
        check.same("the new last day", press.hasRight(0, SING, 99), true);
        check.same("the old last day", press.hasRight(0, SING, 100), false);
        check.same("once more", press.end(0, 50), 0);
        check.same("the newer last day", press.hasRight(0, SING, 50), true);
        check.same("behind it", press.hasRight(0, SING, 51), false);
        check.state("not back again", () -> press.end(0, 99));
        check.same("still", press.hasRight(0, SING, 51), false);
        check.same("the first day stays", press.hasRight(0, SING, 10), true);
        check.same("ahead of the first day", press.hasRight(0, SING, 9), false);
    }

    /** "Throws IllegalStateException if its last day is not later than that" */
    private static void lastIsNotLater(Check check) {
        CanticlePress press = pressOf(1);
        press.right(0, SING, 10, 100);
        check.state("the same day", () -> press.end(0, 100));
        check.state("a day later", () -> press.end(0, 101));
        check.state("much later", () -> press.end(0, 1459));
        check.same("its last day stays", press.hasRight(0, SING, 100), true);
        check.same("no day more", press.hasRight(0, SING, 101), false);
        check.same("a day earlier", press.end(0, 99), 0);
        check.state("the same day again", () -> press.end(0, 99));
    }

    /** "its last day then, from the day ahead of today on" */
    private static void theDayAheadOfToday(Check check) {
        for (int today : new int[] {1, 2, 400, 1458, 1459}) {
            CanticlePress press = pressOf(1);
            press.right(0, SING, 0, 1459);
            passTo(press, today);
            for (int last : new int[] {today - 2, today - 3, -1, -2, MIN}) {
                if (last < today - 1) {
                    check.argument("on " + today + " to end on " + last, () -> press.end(0, last));
                }
            }
            check.same("today itself", press.hasRight(0, SING, today), true);
            check.same("on the day ahead of today", press.end(0, today - 1), 0);
            check.same("the day ahead of today", press.hasRight(0, SING, today - 1), true);
            check.same("today itself then", press.hasRight(0, SING, today), false);
        }
    }

    /** "(-1 on the day 0)" */
    private static void minus1OnTheDay0(Check check) {
        CanticlePress press = pressOf(1);
        press.right(0, SING, 0, 0);
        check.argument("on -2", () -> press.end(0, -2));
        check.argument("on the least of all", () -> press.end(0, MIN));
        check.same("the day 0", press.hasRight(0, SING, 0), true);
        check.same("on -1", press.end(0, -1), 0);
        check.same("no day 0", press.hasRight(0, SING, 0), false);
        check.state("on -1 again", () -> press.end(0, -1));
        CanticlePress later = pressOf(1);
        later.right(0, SING, 0, 9);
        later.pass(1);
        check.argument("on -1 on the day 1", () -> later.end(0, -1));
        check.same("on 0 on the day 1", later.end(0, 0), 0);
    }

    /** "to 1459": the last day of all is in the range, though no right ends later */
    private static void to1459(Check check) {
        CanticlePress press = pressOf(1);
        press.right(0, SING, 0, 1459);
        check.state("on 1459", () -> press.end(0, 1459));
        check.argument("on 1460", () -> press.end(0, 1460));
        check.argument("on the most of all", () -> press.end(0, MAX));
        check.same("on 1458", press.end(0, 1458), 0);
        check.same("the day 1458", press.hasRight(0, SING, 1458), true);
        check.same("the day 1459", press.hasRight(0, SING, 1459), false);
    }

    /** Ended on its first day, it has that one day. */
    private static void endedOnItsFirstDay(Check check) {
        CanticlePress press = pressOf(1);
        press.right(0, SING, 20, 30);
        check.same("on its first day", press.end(0, 20), 0);
        check.same("ahead of it", press.hasRight(0, SING, 19), false);
        check.same("its first day", press.hasRight(0, SING, 20), true);
        check.same("behind it", press.hasRight(0, SING, 21), false);
    }

    /** "ended ahead of its first day it has no day" */
    private static void endedAheadOfItsFirstDay(Check check) {
        for (int last : new int[] {19, 18, 0, -1}) {
            CanticlePress press = pressOf(1);
            press.right(0, SING, 20, 30);
            check.same("on " + last, press.end(0, last), 0);
            for (int day = 0; day <= 31; day++) {
                check.same("no day " + day, press.hasRight(0, SING, day), false);
            }
            check.state("not on that day again", () -> press.end(0, last));
            check.state("not on a later one", () -> press.end(0, 25));
            check.same("it is a right still: the next one", press.right(0, SING, 20, 20), 1);
            check.same("which has its day", press.hasRight(0, SING, 20), true);
        }
    }

    /** "Throws IndexOutOfBoundsException if there is no such right" */
    private static void noSuchRight(Check check) {
        CanticlePress press = pressOf(1);
        for (int rights = 0; rights <= 40; rights++) {
            for (int right : new int[] {-1, rights, MIN, MAX}) {
                check.index("end of " + right + " of " + rights, () -> press.end(right, 5));
            }
            if (rights > 0) {
                check.same("end of the last of " + rights, press.end(rights - 1, 5), 0);
            }
            if (rights < 40) {
                press.right(0, SING, 0, 9);
            }
        }
    }

    /** "Returns how many services are planned anew by that": none, where none has a hymn of it */
    private static void noneIsPlannedAnew(Check check) {
        CanticlePress press = pressOf(2);
        press.right(0, SING, 0, 100);
        press.right(0, PRINT, 0, 100);
        press.right(1, SING, 0, 100);
        check.same("no service at all", press.end(0, 90), 0);
        press.service(0, 50);
        check.same("a service without a hymn", press.end(0, 40), 0);
        press.learn(0, 1);
        press.plan(0);
        check.same("a service with another hymn", press.end(0, 30), 0);
        check.same("a right to another use", press.end(1, 30), 0);
        check.same("a service on its last day", press.end(2, 50), 0);
        check.same("its hymn", press.hymnOf(0), 1);
        check.same("a service behind its last day", press.end(2, 49), 1);
        check.same("no hymn", press.hymnOf(0), NONE);
    }

    /** "each service from today on" */
    private static void fromTodayOn(Check check) {
        CanticlePress press = pressOf(2);
        press.right(0, SING, 0, 1459);
        for (int choir = 0; choir < 3; choir++) {
            press.learn(choir, 0);
        }
        press.service(0, 99);
        press.service(1, 100);
        press.service(2, 101);
        press.right(1, SING, 0, 1459);
        for (int choir = 0; choir < 3; choir++) {
            press.learn(choir, 1);
        }
        press.pass(100);
        check.same("today's and the next day's", press.end(0, 99), 2);
        check.same("yesterday's", press.hymnOf(0), 0);
        check.same("today's", press.hymnOf(1), 1);
        check.same("tomorrow's", press.hymnOf(2), 1);
    }

    /** "whose hymn has no right to SING on its day any more" */
    private static void onItsDayAnyMore(Check check) {
        CanticlePress press = pressOf(1);
        press.right(0, SING, 0, 200);
        press.right(0, SING, 60, 60);
        press.right(0, PRINT, 0, 200);
        for (int choir = 0; choir < 3; choir++) {
            press.learn(choir, 0);
            press.service(choir, 59 + choir);
        }
        check.same("of three, one is on the day of another right", press.end(0, 58), 2);
        check.same("the one on the day 59", press.hymnOf(0), NONE);
        check.same("the one on the day 60", press.hymnOf(1), 0);
        check.same("the one on the day 61", press.hymnOf(2), NONE);
        check.same("when that other right ends, too", press.end(1, 59), 1);
        check.same("the one on the day 60 then", press.hymnOf(1), NONE);
    }

    /** A press whose first services, of rising numbers, falling days and mixed choirs, all have the hymn 0. */
    private static CanticlePress pressWithServices(int hymns) {
        CanticlePress press = pressOf(hymns);
        press.right(0, SING, 0, 1459);
        for (int choir = 0; choir < 4; choir++) {
            press.learn(choir, 0);
        }
        press.service(2, 300);
        press.service(0, 200);
        press.service(3, 100);
        press.service(1, 50);
        for (int hymn = 1; hymn < hymns; hymn++) {
            press.right(hymn, SING, 0, 1459);
            for (int choir = 0; choir < 4; choir++) {
                press.learn(choir, hymn);
            }
        }
        return press;
    }

    /** "is planned anew, by rising numbers" */
    private static void byRisingNumbers(Check check) {
        CanticlePress press = pressWithServices(4);
        check.same("all four", press.end(0, -1), 4);
        int[] due = {1, 2, 3, 1};
        for (int service = 0; service < 4; service++) {
            check.same("the hymn of " + service, press.hymnOf(service), due[service]);
        }
        CanticlePress some = pressWithServices(3);
        check.same("the first two", some.end(0, 100), 2);
        check.same("the first", some.hymnOf(0), 1);
        check.same("the second", some.hymnOf(1), 2);
        check.same("the third stays", some.hymnOf(2), 0);
        check.same("the fourth stays", some.hymnOf(3), 0);
    }

    /** "all of them are without hymns at first, then each one is planned" */
    private static void withoutHymnsAtFirst(Check check) {
        CanticlePress press = pressWithServices(2);
        press.service(0, 180);
        check.same("the hymn 1 is taken 20 days ahead of the second", press.hymnOf(4), 1);
        press.service(0, 190);
        check.same("neither has rest on the day 190", press.hymnOf(5), NONE);
        check.same("four had the hymn 0", press.end(0, -1), 4);
        check.same("the first has the other", press.hymnOf(0), 1);
        check.same("the second has none, the other lacks rest", press.hymnOf(1), NONE);
        check.same("one with another hymn keeps it", press.hymnOf(4), 1);
        check.same("one without a hymn stays so", press.hymnOf(5), NONE);
        press.right(0, SING, 0, 1459);
        press.service(0, 1000);
        check.same("the hymn 0 is in none then", press.hymnOf(6), 0);
    }

    /** All 40 services are planned anew at once. */
    private static void all40ArePlannedAnew(Check check) {
        CanticlePress press = pressOf(2);
        press.right(0, SING, 0, 1459);
        press.right(1, SING, 0, 1459);
        for (int choir = 0; choir < 4; choir++) {
            press.learn(choir, 0);
        }
        for (int service = 0; service < 40; service++) {
            press.service(service % 4, 28 * (service / 4));
            check.same("the hymn of " + service, press.hymnOf(service), 0);
        }
        for (int choir = 0; choir < 3; choir++) {
            press.learn(choir, 1);
        }
        check.same("all", press.end(0, -1), 40);
        for (int service = 0; service < 40; service++) {
            check.same("the new hymn of " + service, press.hymnOf(service), service % 4 == 3 ? NONE : 1);
        }
    }

    /** "copies: 1 to 1000"; "Throws IllegalArgumentException if copies is out of its range" */
    private static void copies(Check check) {
        CanticlePress press = pressOf(1);
        press.right(0, PRINT, 0, 0);
        check.same("the least", press.print(0, 1), 1);
        check.same("the most", press.print(0, 1000), 1000);
        for (int copies : new int[] {0, -1, -1000, 1001, MIN, MAX}) {
            check.argument(copies + " copies", () -> press.print(0, copies));
        }
        check.same("printed", press.printed(0, 0), 1001);
    }

    /** "Throws IllegalStateException if it has no right to PRINT today" */
    private static void aRightToPrintToday(Check check) {
        for (int day : new int[] {0, 1, 800, 1459}) {
            CanticlePress press = pressOf(4);
            press.right(0, PRINT, day, day);
            press.right(1, SING, 0, 1459);
            press.right(2, PRINT, 0, Math.max(0, day - 1));
            press.right(3, PRINT, Math.min(1459, day + 1), 1459);
            passTo(press, day);
            check.same("a right today, " + day, press.print(0, 2), 2);
            check.state("a right to sing", () -> press.print(1, 2));
            if (day > 0) {
                check.state("a right up to yesterday", () -> press.print(2, 2));
            }
            if (day < 1459) {
                check.state("a right from tomorrow on", () -> press.print(3, 2));
            }
            press.end(0, day - 1);
            check.state("a right that has ended", () -> press.print(0, 2));
            for (int hymn = 0; hymn < 4; hymn++) {
                check.same("printed of " + hymn, press.printed(hymn, day / 365), hymn == 0 ? 2 : 0);
            }
        }
    }

    /** "Returns how many pages are printed, of all copies." */
    private static void pagesOfAllCopies(Check check) {
        CanticlePress press = new CanticlePress();
        press.hymn(0, 15, 8, 0);
        press.hymn(0, 15, 9, 0);
        press.hymn(0, 15, 30, 1 | 1 << 9 | 1 << 18);
        for (int hymn = 0; hymn < 3; hymn++) {
            press.right(hymn, PRINT, 0, 1459);
        }
        check.same("the most copies of one page", press.print(0, 1000), 1000);
        check.same("one copy of two pages", press.print(1, 1), 2);
        check.same("the most copies of the most pages", press.print(2, 1000), 7000);
        check.same("copies are no pages", press.printed(2, 0), 1000);
        for (int k = 0; k < 400; k++) {
            press.print(2, 1000);
        }
        check.same("401 times the most copies", press.printed(2, 0), 401000);
    }

    /** "year: 0 to 3"; "Throws IndexOutOfBoundsException if there is no such ... year" */
    private static void years(Check check) {
        CanticlePress press = pressOf(16);
        for (int hymn : new int[] {0, 15}) {
            check.same("the least", press.printed(hymn, 0), 0);
            check.same("the most", press.printed(hymn, 3), 0);
            for (int year : new int[] {-1, 4, 5, MIN, MAX}) {
                check.index("the year " + year, () -> press.printed(hymn, year));
            }
        }
    }

    /** "The year of a day is the day divided by 365, rounded down": what is printed on the days at each edge */
    private static void daysOfYears(Check check) {
        int[] days = {0, 364, 365, 729, 730, 1094, 1095, 1459};
        int[] yearOf = {0, 0, 1, 1, 2, 2, 3, 3};
        for (int k = 0; k < days.length; k++) {
            CanticlePress press = pressOf(2);
            press.right(0, PRINT, 0, 1459);
            press.right(1, PRINT, 0, 1459);
            passTo(press, days[k]);
            press.print(0, 3);
            press.print(0, 4);
            for (int year = 0; year < 4; year++) {
                check.same("of the day " + days[k] + " in " + year, press.printed(0, year), year == yearOf[k] ? 7 : 0);
                check.same("of another hymn in " + year, press.printed(1, year), 0);
            }
        }
    }
}
