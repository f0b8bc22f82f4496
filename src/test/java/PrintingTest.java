/** Promises 10 and 11: print and printed. */
public final class PrintingTest {
    private static final int SING = CanticlePress.SING;
    private static final int PRINT = CanticlePress.PRINT;
    private static final int MIN = Integer.MIN_VALUE;
    private static final int MAX = Integer.MAX_VALUE;

    public static void main(String[] args) {
        Check check = new Check();
        copies(check);
        years(check);
        rights(check);
        wrongPrints(check);
        wrongQuestions(check);
        check.end();
    }

    private static void copies(Check check) {
        CanticlePress press = new CanticlePress();
        press.hymn(0, 15, 8, 0);
        press.hymn(0, 15, 30, 0);
        press.right(0, PRINT, 0, 10);
        press.right(1, PRINT, 0, 10);
        check.same("a copy of one page", press.print(0, 1), 1);
        check.same("1000 copies of four pages", press.print(1, 1000), 4000);
        check.same("seven copies of four pages", press.print(1, 7), 28);
        check.same("copies, not pages", press.printed(1, 0), 1007);
        check.same("of the other hymn", press.printed(0, 0), 1);
    }

    private static void years(Check check) {
        CanticlePress press = new CanticlePress();
        press.hymn(0, 15, 8, 0);
        press.hymn(0, 15, 8, 0);
        press.right(0, PRINT, 0, 1459);
        press.right(1, PRINT, 0, 1459);
        press.pass(200);
        press.pass(164);
        press.print(0, 3);
        press.pass(1);
        press.print(0, 5);
        press.print(1, 2);
        press.pass(200);
        press.pass(164);
        press.print(0, 7);
        press.pass(1);
        press.print(0, 11);
        press.pass(200);
        press.pass(165);
        press.print(0, 13);
        press.pass(200);
        press.pass(164);
        press.print(0, 17);
        int[] due = {3, 12, 11, 30};
        int[] dueOfOther = {0, 2, 0, 0};
        for (int year = 0; year < 4; year++) {
            check.same("printed in " + year, press.printed(0, year), due[year]);
            check.same("the other one in " + year, press.printed(1, year), dueOfOther[year]);
        }
    }

    private static void rights(Check check) {
        CanticlePress press = new CanticlePress();
        press.hymn(0, 15, 8, 0);
        press.hymn(0, 15, 8, 0);
        press.right(0, SING, 0, 1459);
        press.right(1, PRINT, 0, 1459);
        check.state("a right to sing", () -> press.print(0, 1));
        press.right(0, PRINT, 1, 2);
        check.state("a day ahead of the right", () -> press.print(0, 1));
        press.pass(1);
        check.same("on its first day", press.print(0, 1), 1);
        press.pass(1);
        check.same("on its last day", press.print(0, 1), 1);
        press.pass(1);
        check.state("behind its last day", () -> press.print(0, 1));
        press.end(1, 2);
        check.state("an ended right", () -> press.print(1, 1));
        check.same("copies", press.printed(0, 0), 2);
        check.same("no copies", press.printed(1, 0), 0);
    }

    private static void wrongPrints(Check check) {
        CanticlePress press = new CanticlePress();
        check.index("no hymn at all", () -> press.print(0, 1));
        press.hymn(0, 15, 8, 0);
        press.right(0, PRINT, 0, 0);
        press.print(0, 4);
        String before = Snapshot.of(press, 0, 0, 1);
        for (int hymn : new int[] {-1, 1, 16, MIN, MAX}) {
            check.index("print of " + hymn, () -> press.print(hymn, 1));
        }
        for (int copies : new int[] {0, -1, 1001, MIN, MAX}) {
            check.argument(copies + " copies", () -> press.print(0, copies));
        }
        check.index("no hymn goes ahead of no copies", () -> press.print(1, 0));
        check.same("wrong prints change nothing", Snapshot.of(press, 0, 0, 1), before);
        press.pass(1);
        check.state("no right", () -> press.print(0, 1));
        check.argument("no copies go ahead of no right", () -> press.print(0, 0));
        check.index("no hymn goes ahead of no right", () -> press.print(-1, 1));
        check.same("still the same", Snapshot.of(press, 0, 0, 1), before);
    }

    private static void wrongQuestions(Check check) {
        CanticlePress press = new CanticlePress();
        check.index("no hymn at all", () -> press.printed(0, 0));
        press.hymn(0, 15, 8, 0);
        for (int hymn : new int[] {-1, 1, 16, MIN, MAX}) {
            check.index("printed of " + hymn, () -> press.printed(hymn, 0));
        }
        for (int year : new int[] {-1, 4, MIN, MAX}) {
            check.index("printed in " + year, () -> press.printed(0, year));
        }
        check.same("none in the last year", press.printed(0, 3), 0);
    }
}
