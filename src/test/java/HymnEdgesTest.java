/** The sentences of the document on hymns, lines, rests and pages that name an edge, each with a test of its own. */
public final class HymnEdgesTest {
    private static final int MIN = Integer.MIN_VALUE;
    private static final int MAX = Integer.MAX_VALUE;

    public static void main(String[] args) {
        Check check = new Check();
        withoutHymns(check);
        atMost16Hymns(check);
        numberedFrom0(check);
        owners(check);
        seasons(check);
        lines(check);
        rests(check);
        theNumberOfHymns(check);
        fromTheFirstLineOn(check);
        atMost8LinesLeft(check);
        atMost8LinesLeftBehindAFullPage(check);
        theLastRestOfTheNext8(check);
        ifThereIsNoneAll8(check);
        turnsBadly(check);
        theLastPageNeverTurns(check);
        theMostPages(check);
        noSuchHymn(check);
        noSuchLine(check);
        check.end();
    }

    /** "Makes a press without hymns" */
    private static void withoutHymns(Check check) {
        CanticlePress press = new CanticlePress();
        check.same("no hymns", press.hymns(), 0);
        check.index("pages of the hymn 0", () -> press.pages(0));
        check.index("pageOf of the hymn 0", () -> press.pageOf(0, 0));
        check.index("badTurns of the hymn 0", () -> press.badTurns(0));
    }

    /** "Hymns. At most 16"; "Throws IllegalStateException if there are 16 hymns" */
    private static void atMost16Hymns(Check check) {
        CanticlePress press = new CanticlePress();
        for (int hymn = 0; hymn < 15; hymn++) {
            press.hymn(0, 15, 1, 0);
        }
        check.same("the 16th", press.hymn(0, 15, 9, 0), 15);
        check.state("the 17th", () -> press.hymn(4, 1, 30, 7));
        check.state("the 17th, like the 16th", () -> press.hymn(0, 15, 9, 0));
        check.same("hymns", press.hymns(), 16);
        check.same("pages of the 16th", press.pages(15), 2);
        check.same("pages of the first", press.pages(0), 1);
        check.index("pages of the 17th", () -> press.pages(16));
    }

    /** "numbered from 0"; "Returns its number." */
    private static void numberedFrom0(Check check) {
        CanticlePress press = new CanticlePress();
        check.same("the first", press.hymn(3, 4, 5, 6), 0);
        check.same("the second, the same again", press.hymn(3, 4, 5, 6), 1);
        check.index("a refused one", () -> press.hymn(-1, 4, 5, 6));
        check.same("the third", press.hymn(3, 4, 5, 6), 2);
    }

    /** "owner: 0 to 4"; "Throws IndexOutOfBoundsException if there is no such owner" */
    private static void owners(Check check) {
        CanticlePress press = new CanticlePress();
        check.same("the least", press.hymn(0, 15, 1, 0), 0);
        check.same("the most", press.hymn(4, 15, 1, 0), 1);
        for (int owner : new int[] {-1, 5, MIN, MAX}) {
            check.index("owner " + owner, () -> press.hymn(owner, 15, 1, 0));
        }
        check.same("hymns", press.hymns(), 2);
    }

    /** "seasons: the seasons, as a set, 1 to 15: bit k for the season k" */
    private static void seasons(Check check) {
        CanticlePress press = new CanticlePress();
        for (int seasons = 1; seasons <= 15; seasons++) {
            check.same("seasons " + seasons, press.hymn(0, seasons, 1, 0), seasons - 1);
        }
        for (int seasons : new int[] {0, 16, 17, 31, -1, MIN, MAX}) {
            check.argument("seasons " + seasons, () -> press.hymn(0, seasons, 1, 0));
        }
        check.same("hymns", press.hymns(), 15);
    }

    /** "lines: 1 to 30" */
    private static void lines(Check check) {
        CanticlePress press = new CanticlePress();
        check.same("the least", press.hymn(0, 15, 1, 0), 0);
        check.same("the most", press.hymn(0, 15, 30, 0), 1);
        check.same("the line 0 of one", press.pageOf(0, 0), 0);
        check.same("the line 29 of 30", press.pageOf(1, 29), 3);
        for (int lines : new int[] {0, 31, 32, 33, 62, 63, 64, -1, -2, -31, -32, MIN, MIN + 1, MAX}) {
            check.argument(lines + " lines", () -> press.hymn(0, 15, lines, 0));
        }
        check.same("hymns", press.hymns(), 2);
    }

    /** "rests: the lines behind which there is a rest ... below 2 to the power of lines" */
    private static void rests(Check check) {
        for (int lines = 1; lines <= 30; lines++) {
            CanticlePress press = new CanticlePress();
            int all = 1 << lines;
            int count = lines;
            check.same("none of " + lines, press.hymn(0, 15, lines, 0), 0);
            check.same("all of " + lines, press.hymn(0, 15, lines, all - 1), 1);
            check.same("the last of " + lines, press.hymn(0, 15, lines, all >> 1), 2);
            for (int rests : new int[] {all, all + 1, -1, -all, MIN, MAX}) {
                check.argument("rests " + rests + " of " + lines, () -> press.hymn(0, 15, count, rests));
            }
            check.same("hymns", press.hymns(), 3);
        }
    }

    /** "Returns the number of hymns." */
    private static void theNumberOfHymns(Check check) {
        CanticlePress press = new CanticlePress();
        for (int hymn = 0; hymn < 16; hymn++) {
            check.same("none of them is told twice", press.hymns(), hymn);
            check.same("nor by being asked", press.hymns(), hymn);
            press.hymn(0, 15, 1, 0);
        }
        check.same("all", press.hymns(), 16);
    }

    private static CanticlePress pressWith(int lines, int... rests) {
        CanticlePress press = new CanticlePress();
        int set = 0;
        for (int rest : rests) {
            set |= 1 << rest;
        }
        press.hymn(0, 15, lines, set);
        return press;
    }

    private static void pages(Check check, String what, CanticlePress press, int pages, int badTurns) {
        check.same("pages, " + what, press.pages(0), pages);
        check.same("badTurns, " + what, press.badTurns(0), badTurns);
    }

    /** "The lines of a hymn are laid on pages from the first one on"; "Returns the page, 0 for the first one." */
    private static void fromTheFirstLineOn(Check check) {
        CanticlePress press = pressWith(17);
        int[] due = {0, 0, 0, 0, 0, 0, 0, 0, 1, 1, 1, 1, 1, 1, 1, 1, 2};
        for (int line = 0; line < 17; line++) {
            check.same("the page of the line " + line, press.pageOf(0, line), due[line]);
        }
    }

    /** "if at most 8 lines are left, they are the last page" */
    private static void atMost8LinesLeft(Check check) {
        for (int lines = 1; lines <= 8; lines++) {
            pages(check, lines + " lines", pressWith(lines), 1, 0);
            pages(check, lines + " lines and a rest behind the first", pressWith(lines, 0), 1, 0);
            pages(check, lines + " lines and a rest behind the last", pressWith(lines, lines - 1), 1, 0);
            check.same("the last of " + lines, pressWith(lines, 0).pageOf(0, lines - 1), 0);
        }
        pages(check, "9 lines", pressWith(9), 2, 1);
        pages(check, "9 lines and a rest behind the first", pressWith(9, 0), 2, 0);
    }

    /** "if at most 8 lines are left, they are the last page", where pages have gone ahead */
    private static void atMost8LinesLeftBehindAFullPage(Check check) {
        pages(check, "8 left behind 8", pressWith(16), 2, 1);
        pages(check, "8 left behind 8, with rests", pressWith(16, 7, 8, 12), 2, 0);
        pages(check, "9 left behind 8", pressWith(17), 3, 2);
        pages(check, "9 left behind 8, with rests", pressWith(17, 7, 8, 12), 3, 0);
        pages(check, "8 left behind 1", pressWith(9, 0, 8), 2, 0);
        pages(check, "9 left behind 1", pressWith(10, 0, 8), 3, 0);
        pages(check, "8 left behind 2", pressWith(10, 0, 1), 2, 0);
        pages(check, "8 left behind 22", pressWith(30, 7, 15, 21), 4, 0);
        pages(check, "9 left behind 21", pressWith(30, 7, 15, 20), 5, 1);
    }

    /** "otherwise a page has lines up to the last one of the next 8 behind which there is a rest" */
    private static void theLastRestOfTheNext8(Check check) {
        for (int rest = 0; rest < 8; rest++) {
            CanticlePress press = pressWith(9, rest);
            pages(check, "a rest behind the line " + rest, press, 2, 0);
            check.same("the line with the rest", press.pageOf(0, rest), 0);
            check.same("the line behind it", press.pageOf(0, rest + 1), 1);
        }
        CanticlePress two = pressWith(12, 2, 5);
        check.same("up to the last rest, not the first", two.pageOf(0, 5), 0);
        check.same("behind the last rest", two.pageOf(0, 6), 1);
        CanticlePress ninth = pressWith(20, 8);
        check.same("a rest behind the ninth line is none of the next 8", ninth.pageOf(0, 7), 0);
        check.same("the ninth line is on the next page", ninth.pageOf(0, 8), 1);
        check.same("which ends with it", ninth.pageOf(0, 9), 2);
        CanticlePress second = pressWith(30, 3, 11, 12);
        check.same("the next 8 begin behind the rest", second.pageOf(0, 11), 1);
        check.same("and end 8 lines later", second.pageOf(0, 12), 2);
    }

    /** "or, if there is none, all 8" */
    private static void ifThereIsNoneAll8(Check check) {
        CanticlePress press = pressWith(9, 8);
        check.same("the eighth line", press.pageOf(0, 7), 0);
        check.same("the ninth line", press.pageOf(0, 8), 1);
        CanticlePress later = pressWith(20, 0);
        check.same("eight lines behind a rest", later.pageOf(0, 8), 1);
        check.same("and no more", later.pageOf(0, 9), 2);
    }

    /** "A page but the last one turns badly if there is no rest behind its last line." */
    private static void turnsBadly(Check check) {
        pages(check, "no rest at all", pressWith(30), 4, 3);
        pages(check, "rests where it turns", pressWith(30, 7, 15, 23), 4, 0);
        pages(check, "the first page turns well", pressWith(30, 7), 4, 2);
        pages(check, "the second page turns well", pressWith(30, 15), 4, 2);
        pages(check, "the third page turns well", pressWith(30, 23), 4, 2);
        pages(check, "a rest ahead of the last line makes it the last", pressWith(30, 6, 14, 22), 4, 0);
        pages(check, "rests all over", pressWith(30, 0, 1, 2, 3, 4, 5, 6, 7), 4, 2);
    }

    /** "A page but the last one": the last one never turns badly, with a rest behind its last line or without */
    private static void theLastPageNeverTurns(Check check) {
        pages(check, "one line", pressWith(1), 1, 0);
        pages(check, "one line with a rest", pressWith(1, 0), 1, 0);
        pages(check, "a last page of 8", pressWith(16, 7), 2, 0);
        pages(check, "a last page of 8 with a rest behind it", pressWith(16, 7, 15), 2, 0);
        pages(check, "a rest behind the last line of 30", pressWith(30, 29), 4, 3);
        pages(check, "rests behind all lines", pressWith(30, 7, 15, 23, 29), 4, 0);
    }

    /** A line alone, where none of the 8 behind it has a rest: so the most pages come about, 7. */
    private static void theMostPages(Check check) {
        CanticlePress press = pressWith(30, 0, 9, 18);
        pages(check, "1, 8, 1, 8, 1, 8 and 3 lines", press, 7, 3);
        int[] firstLines = {0, 1, 9, 10, 18, 19, 27};
        for (int page = 0; page < firstLines.length; page++) {
            int first = firstLines[page];
            check.same("the first line of the page " + page, press.pageOf(0, first), page);
            check.same("the line ahead of it", first == 0 ? -1 : press.pageOf(0, first - 1), page - 1);
        }
        check.same("the line 29", press.pageOf(0, 29), 6);
    }

    /** "Throws IndexOutOfBoundsException if there is no such hymn" */
    private static void noSuchHymn(Check check) {
        CanticlePress press = new CanticlePress();
        for (int hymns = 0; hymns <= 16; hymns++) {
            for (int hymn : new int[] {-1, hymns}) {
                check.index("pages of " + hymn, () -> press.pages(hymn));
                check.index("pageOf of " + hymn, () -> press.pageOf(hymn, 0));
                check.index("badTurns of " + hymn, () -> press.badTurns(hymn));
            }
            if (hymns > 0) {
                check.same("pages of the last", press.pages(hymns - 1), 2);
                check.same("pageOf of the last", press.pageOf(hymns - 1, 8), 1);
                check.same("badTurns of the last", press.badTurns(hymns - 1), 1);
            }
            if (hymns < 16) {
                press.hymn(0, 15, 9, 0);
            }
        }
    }

    /** "or it has no such line" */
    private static void noSuchLine(Check check) {
        for (int lines = 1; lines <= 30; lines++) {
            CanticlePress press = pressWith(lines);
            press.hymn(0, 15, 30, 0);
            check.same("the first of " + lines, press.pageOf(0, 0), 0);
            check.same("the last of " + lines, press.pageOf(0, lines - 1), (lines - 1) / 8);
            for (int line : new int[] {-1, lines, lines + 1, 31, 32, MIN, MAX}) {
                check.index("the line " + line + " of " + lines, () -> press.pageOf(0, line));
            }
        }
    }
}
