/** Promise 12: learn. */
public final class ChoirsTest {
    private static final int NONE = CanticlePress.NONE;
    private static final int MIN = Integer.MIN_VALUE;
    private static final int MAX = Integer.MAX_VALUE;

    public static void main(String[] args) {
        Check check = new Check();
        learns(check);
        servicesStay(check);
        wrongCalls(check);
        check.end();
    }

    private static void learns(Check check) {
        CanticlePress press = new CanticlePress();
        for (int hymn = 0; hymn < 16; hymn++) {
            press.hymn(0, 15, 1, 0);
        }
        for (int choir = 0; choir < 4; choir++) {
            for (int hymn = 0; hymn < 16; hymn += 5) {
                check.same("learns", press.learn(choir, hymn), true);
            }
        }
        check.same("forgets", press.learn(2, 5), false);
        check.same("another choir knows it still", press.learn(1, 5), false);
        check.same("another hymn is known still", press.learn(2, 15), false);
        check.same("learns again", press.learn(2, 5), true);
        check.same("forgets again", press.learn(2, 5), false);
    }

    private static void servicesStay(Check check) {
        CanticlePress press = new CanticlePress();
        press.hymn(0, 15, 1, 0);
        press.right(0, CanticlePress.SING, 0, 1459);
        press.service(3, 10);
        press.learn(3, 0);
        check.same("a service without a hymn stays so", press.hymnOf(0), NONE);
        press.service(3, 100);
        press.learn(3, 0);
        check.same("a service of a forgotten hymn stays", press.hymnOf(1), 0);
        check.same("until it is planned anew", press.plan(1), NONE);
    }

    private static void wrongCalls(Check check) {
        CanticlePress press = new CanticlePress();
        check.index("no hymn at all", () -> press.learn(0, 0));
        press.hymn(0, 15, 1, 0);
        for (int choir : new int[] {-1, 4, MIN, MAX}) {
            check.index("choir " + choir, () -> press.learn(choir, 0));
        }
        for (int hymn : new int[] {-1, 1, 16, MIN, MAX}) {
            check.index("hymn " + hymn, () -> press.learn(0, hymn));
        }
        for (int choir = 0; choir < 4; choir++) {
            check.same("wrong calls teach nothing", press.learn(choir, 0), true);
        }
    }
}
