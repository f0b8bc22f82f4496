/** Promises 16 to 18: silent, sung and sungByHymns. */
public final class ReportsTest {
    private static final int SING = CanticlePress.SING;
    private static final int MIN = Integer.MIN_VALUE;
    private static final int MAX = Integer.MAX_VALUE;

    public static void main(String[] args) {
        Check check = new Check();
        silent(check);
        upToNow(check);
        owners(check);
        years(check);
        wrongCalls(check);
        check.end();
    }

    private static void sung(Check check, CanticlePress press, int owner, int year, int due) {
        check.same("sung " + owner + " in " + year, press.sung(owner, year), due);
        check.same("sungByHymns " + owner + " in " + year, press.sungByHymns(owner, year), due);
    }

    private static void silent(Check check) {
        CanticlePress press = new CanticlePress();
        press.hymn(0, 15, 1, 0);
        press.right(0, SING, 0, 1459);
        press.service(0, 0);
        check.same("today's counts", press.silent(), 1);
        press.service(0, 1);
        press.service(1, 2);
        check.same("later ones do not count", press.silent(), 1);
        press.learn(0, 0);
        press.plan(0);
        check.same("with a hymn it does not count", press.silent(), 0);
        press.pass(1);
        check.same("a day later", press.silent(), 1);
        press.pass(200);
        check.same("much later", press.silent(), 2);
        press.service(2, 900);
        press.pass(200);
        press.pass(200);
        press.pass(200);
        check.same("ahead of that in a later year", press.silent(), 2);
        press.pass(99);
        check.same("of all years", press.silent(), 3);
    }

    private static void upToNow(Check check) {
        CanticlePress press = new CanticlePress();
        press.hymn(4, 15, 1, 0);
        press.right(0, SING, 0, 1459);
        press.learn(0, 0);
        press.learn(1, 0);
        press.service(0, 0);
        press.service(1, 5);
        press.service(0, 50);
        sung(check, press, 4, 0, 1);
        press.pass(4);
        sung(check, press, 4, 0, 1);
        press.pass(1);
        sung(check, press, 4, 0, 2);
        press.end(0, 20);
        sung(check, press, 4, 0, 2);
        press.pass(100);
        sung(check, press, 4, 0, 2);
        check.same("the third was silent", press.silent(), 1);
    }

    private static void owners(Check check) {
        CanticlePress press = new CanticlePress();
        int[] ownerOf = {0, 2, 2, 4};
        for (int hymn = 0; hymn < 4; hymn++) {
            press.hymn(ownerOf[hymn], 15, 1, 0);
            press.right(hymn, SING, 0, 1459);
            press.learn(0, hymn);
        }
        for (int service = 0; service < 7; service++) {
            press.service(0, 10 * service);
        }
        press.service(1, 60);
        int[] hymns = {0, 1, 2, 0, 1, 2, 0};
        press.pass(60);
        check.same("the fourth hymn has rest, too", press.hymnOf(3), 3);
        check.same("the first is sung again", press.hymnOf(4), hymns[3]);
        sung(check, press, 0, 0, 2);
        sung(check, press, 1, 0, 0);
        sung(check, press, 2, 0, 4);
        sung(check, press, 3, 0, 0);
        sung(check, press, 4, 0, 1);
        check.same("silent", press.silent(), 1);
    }

    private static void years(Check check) {
        CanticlePress press = new CanticlePress();
        press.hymn(1, 15, 1, 0);
        press.right(0, SING, 0, 1459);
        for (int choir = 0; choir < 4; choir++) {
            press.learn(choir, 0);
        }
        press.service(0, 364);
        press.service(1, 365);
        press.service(2, 729);
        press.service(3, 730);
        press.service(0, 1094);
        press.service(1, 1095);
        press.service(2, 1459);
        press.service(3, 1300);
        for (int year = 0; year < 4; year++) {
            sung(check, press, 1, year, 0);
        }
        for (int k = 0; k < 7; k++) {
            press.pass(200);
        }
        int[] due = {1, 2, 2, 2};
        for (int year = 0; year < 4; year++) {
            sung(check, press, 1, year, due[year]);
            sung(check, press, 0, year, 0);
        }
        press.pass(59);
        sung(check, press, 1, 3, 3);
    }

    private static void wrongCalls(Check check) {
        CanticlePress press = new CanticlePress();
        press.hymn(1, 15, 1, 0);
        for (int owner : new int[] {-1, 5, MIN, MAX}) {
            check.index("sung of " + owner, () -> press.sung(owner, 0));
            check.index("sungByHymns of " + owner, () -> press.sungByHymns(owner, 0));
        }
        for (int year : new int[] {-1, 4, MIN, MAX}) {
            check.index("sung in " + year, () -> press.sung(0, year));
            check.index("sungByHymns in " + year, () -> press.sungByHymns(0, year));
        }
        sung(check, press, 4, 3, 0);
    }
}
