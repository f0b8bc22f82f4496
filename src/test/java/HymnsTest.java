/** Promises 2 and 3: hymn and hymns. */
public final class HymnsTest {
    private static final int MIN = Integer.MIN_VALUE;
    private static final int MAX = Integer.MAX_VALUE;

    public static void main(String[] args) {
        Check check = new Check();
        numbers(check);
        edges(check);
        wrongOwners(check);
        wrongArguments(check);
        order(check);
        check.end();
    }

    private static void numbers(Check check) {
        CanticlePress press = new CanticlePress();
        for (int k = 0; k < 16; k++) {
            check.same("hymns() ahead of hymn " + k, press.hymns(), k);
            check.same("hymn " + k, press.hymn(k % 5, 1 + k % 15, 1 + k, 0), k);
        }
        check.same("hymns()", press.hymns(), 16);
        check.state("the 17th hymn", () -> press.hymn(0, 1, 1, 0));
        check.same("hymns() after the 17th", press.hymns(), 16);
    }

    private static void edges(Check check) {
        CanticlePress press = new CanticlePress();
        check.same("least of all", press.hymn(0, 1, 1, 0), 0);
        check.same("most of all", press.hymn(4, 15, 30, (1 << 30) - 1), 1);
        check.same("a line with a rest", press.hymn(4, 15, 1, 1), 2);
        check.same("rests at their edge", press.hymn(2, 8, 8, 255), 3);
    }

    private static void wrongOwners(Check check) {
        CanticlePress press = new CanticlePress();
        for (int owner : new int[] {-1, 5, MIN, MAX}) {
            check.index("owner " + owner, () -> press.hymn(owner, 1, 1, 0));
        }
        check.same("hymns() after wrong owners", press.hymns(), 0);
    }

    private static void wrongArguments(Check check) {
        CanticlePress press = new CanticlePress();
        for (int seasons : new int[] {0, 16, -1, MIN, MAX}) {
            check.argument("seasons " + seasons, () -> press.hymn(0, seasons, 1, 0));
        }
        for (int lines : new int[] {0, 31, 32, 33, -1, MIN, MAX}) {
            check.argument("lines " + lines, () -> press.hymn(0, 1, lines, 0));
        }
        for (int rests : new int[] {2, -1, MIN, MAX}) {
            check.argument("rests " + rests + " of one line", () -> press.hymn(0, 1, 1, rests));
        }
        check.argument("rests of 8 lines", () -> press.hymn(0, 1, 8, 256));
        check.argument("rests of 30 lines", () -> press.hymn(0, 1, 30, 1 << 30));
        check.argument("rests of 30 lines below 0", () -> press.hymn(0, 1, 30, -1));
        check.same("hymns() after wrong arguments", press.hymns(), 0);
        check.same("the number after wrong arguments", press.hymn(0, 1, 1, 0), 0);
    }

    private static void order(Check check) {
        CanticlePress press = new CanticlePress();
        check.index("no owner goes ahead of no seasons", () -> press.hymn(5, 0, 0, -1));
        for (int k = 0; k < 16; k++) {
            press.hymn(0, 1, 1, 0);
        }
        check.index("no owner goes ahead of 16 hymns", () -> press.hymn(-1, 1, 1, 0));
        check.argument("seasons go ahead of 16 hymns", () -> press.hymn(0, 16, 1, 0));
        check.argument("lines go ahead of 16 hymns", () -> press.hymn(0, 1, 31, 0));
        check.argument("rests go ahead of 16 hymns", () -> press.hymn(0, 1, 1, 2));
    }
}
