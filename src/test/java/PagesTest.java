/** Promises 4 to 6: pages, pageOf and badTurns. */
public final class PagesTest {
    private static final int MIN = Integer.MIN_VALUE;
    private static final int MAX = Integer.MAX_VALUE;

    public static void main(String[] args) {
        Check check = new Check();
        layouts(check);
        wrongHymns(check);
        wrongLines(check);
        check.end();
    }

    private static void layouts(Check check) {
        layout(check, 0, "0");
        layout(check, 1, "0");
        layout(check, 0, "00000000");
        layout(check, set(2, 7), "00000000");
        layout(check, 1, "0 11111111".replace(" ", ""));
        layout(check, 0, "000000001");
        layout(check, set(7), "000000001");
        layout(check, set(8), "000000001");
        layout(check, set(0, 1), "0011111111");
        layout(check, set(0, 3, 5), "000000111");
        layout(check, 0, "0000000011111111");
        layout(check, 0, "00000000111111112");
        layout(check, set(5, 13), "000000111111112");
        layout(check, set(5, 13), "00000011111111222");
        layout(check, set(5, 14), "0000001111111122222");
        layout(check, set(16), "0000000011111111222222222".substring(0, 24));
        layout(check, set(16), "0000000011111111" + "2" + "33333333");
        layout(check, set(15), "0000000011111111222222223");
        layout(check, set(3), "0000" + "11111111" + "22222222" + "33333333" + "44");
        layout(check, set(29), "000000001111111122222222333333");
        layout(check, set(0, 8, 16, 21), "0" + "11111111" + "22222222" + "33333" + "44444444");
        layout(check, set(0, 8, 16, 24), "0" + "11111111" + "22222222" + "33333333" + "44444");
        layout(check, (1 << 30) - 1, "000000001111111122222222333333");
    }

    /** Each sign of the picture is the page of its line. */
    private static void layout(Check check, int rests, String picture) {
        CanticlePress press = new CanticlePress();
        int lines = picture.length();
        press.hymn(1, 1, 3, 0);
        int hymn = press.hymn(0, 15, lines, rests);
        String what = lines + " lines with rests " + Integer.toBinaryString(rests);
        int bad = 0;
        for (int line = 0; line < lines; line++) {
            check.same(what + ": pageOf line " + line, press.pageOf(hymn, line), picture.charAt(line) - '0');
            boolean turns = line + 1 < lines && picture.charAt(line) != picture.charAt(line + 1);
            if (turns && (rests >> line & 1) == 0) {
                bad++;
            }
        }
        check.same(what + ": pages", press.pages(hymn), picture.charAt(lines - 1) - '0' + 1);
        check.same(what + ": badTurns", press.badTurns(hymn), bad);
        check.index(what + ": the line behind the last", () -> press.pageOf(hymn, lines));
    }

    private static int set(int... elements) {
        int set = 0;
        for (int element : elements) {
            set |= 1 << element;
        }
        return set;
    }

    private static void wrongHymns(Check check) {
        CanticlePress press = new CanticlePress();
        check.index("pages of no hymn", () -> press.pages(0));
        press.hymn(0, 15, 9, 0);
        for (int hymn : new int[] {-1, 1, 15, 16, MIN, MAX}) {
            check.index("pages of " + hymn, () -> press.pages(hymn));
            check.index("pageOf of " + hymn, () -> press.pageOf(hymn, 0));
            check.index("badTurns of " + hymn, () -> press.badTurns(hymn));
        }
        check.same("badTurns", press.badTurns(0), 1);
    }

    private static void wrongLines(Check check) {
        CanticlePress press = new CanticlePress();
        press.hymn(0, 15, 9, 0);
        press.hymn(0, 15, 30, 0);
        for (int line : new int[] {-1, 9, 10, 32, 40, MIN, MAX}) {
            check.index("line " + line, () -> press.pageOf(0, line));
        }
        check.index("line 30", () -> press.pageOf(1, 30));
        check.same("line 29", press.pageOf(1, 29), 3);
    }
}
