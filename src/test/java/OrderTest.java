/** "If several exceptions apply to a call, the one that its comment lists first is thrown." */
public final class OrderTest {
    private static final int SING = CanticlePress.SING;
    private static final int PRINT = CanticlePress.PRINT;

    public static void main(String[] args) {
        Check check = new Check();
        hymn(check);
        right(check);
        end(check);
        hasRight(check);
        print(check);
        service(check);
        pass(check);
        check.end();
    }

    /** As many hymns, rights and services as there may be; every day of the choirs 0 to 3 from 100 to 109 is taken. */
    private static CanticlePress full() {
        CanticlePress press = new CanticlePress();
        for (int hymn = 0; hymn < 16; hymn++) {
            press.hymn(0, 15, 1, 0);
        }
        for (int right = 0; right < 40; right++) {
            press.right(right % 16, SING, 0, 50);
        }
        for (int service = 0; service < 40; service++) {
            press.service(service % 4, 100 + service / 4);
        }
        return press;
    }

    private static void hymn(Check check) {
        CanticlePress few = new CanticlePress();
        check.index("owner, seasons", () -> few.hymn(5, 0, 1, 0));
        check.index("owner, lines", () -> few.hymn(5, 15, 31, 0));
        check.index("owner, rests", () -> few.hymn(-1, 15, 1, 2));
        check.index("owner, seasons, lines, rests", () -> few.hymn(-1, 16, 0, -1));
        CanticlePress full = full();
        check.index("owner, 16 hymns", () -> full.hymn(5, 15, 1, 0));
        check.index("all", () -> full.hymn(-1, 0, 31, -1));
        check.argument("seasons, 16 hymns", () -> full.hymn(0, 0, 1, 0));
        check.argument("lines, 16 hymns", () -> full.hymn(0, 15, 0, 0));
        check.argument("rests, 16 hymns", () -> full.hymn(0, 15, 30, 1 << 30));
        check.argument("seasons, lines, rests, 16 hymns", () -> full.hymn(0, 16, 31, -1));
        check.state("16 hymns", () -> full.hymn(0, 15, 30, (1 << 30) - 1));
    }

    private static void right(Check check) {
        CanticlePress few = new CanticlePress();
        few.hymn(0, 15, 1, 0);
        check.index("hymn, first", () -> few.right(1, SING, -1, 0));
        check.index("hymn, last", () -> few.right(-1, SING, 5, 4));
        check.index("use, first", () -> few.right(0, 2, 1460, 1460));
        check.index("use, last", () -> few.right(0, -1, 0, 1460));
        check.index("hymn, use, first, last", () -> few.right(1, 2, -1, -2));
        CanticlePress full = full();
        check.index("hymn, 40 rights", () -> full.right(16, SING, 0, 0));
        check.index("use, 40 rights", () -> full.right(0, 2, 0, 0));
        check.index("all", () -> full.right(-1, -1, 1460, 1461));
        check.argument("first, 40 rights", () -> full.right(0, SING, -1, 0));
        check.argument("last, 40 rights", () -> full.right(0, PRINT, 5, 4));
        check.argument("first, last, 40 rights", () -> full.right(15, PRINT, 1460, 1460));
        check.state("40 rights", () -> full.right(15, PRINT, 1459, 1459));
    }

    private static void end(Check check) {
        CanticlePress press = full();
        press.pass(60);
        check.index("right, last too early", () -> press.end(40, 58));
        check.index("right, last too late", () -> press.end(-1, 1460));
        check.argument("last too early and not earlier than 50", () -> press.end(0, 58));
        check.argument("last too early and its very last day", () -> press.end(39, 50));
        check.argument("last too late and not earlier", () -> press.end(0, 1460));
        check.state("not earlier", () -> press.end(0, 59));
        check.state("not earlier, on the last day of all", () -> press.end(39, 1459));
    }

    private static void hasRight(Check check) {
        CanticlePress press = full();
        check.index("hymn, day", () -> press.hasRight(16, SING, -1));
        check.index("use, day", () -> press.hasRight(0, 2, 1460));
        check.index("hymn, use, day", () -> press.hasRight(-1, -1, -1));
        check.argument("day", () -> press.hasRight(15, PRINT, 1460));
    }

    private static void print(Check check) {
        CanticlePress press = full();
        check.index("hymn, copies", () -> press.print(16, 0));
        check.index("hymn, too many copies", () -> press.print(-1, 1001));
        check.argument("copies, no right", () -> press.print(0, 0));
        check.argument("too many copies, no right", () -> press.print(15, 1001));
        check.state("no right", () -> press.print(15, 1000));
    }

    private static void service(Check check) {
        CanticlePress few = new CanticlePress();
        few.service(0, 0);
        few.service(0, 5);
        few.pass(5);
        check.index("choir, day", () -> few.service(4, 4));
        check.argument("a past day on which the choir has one", () -> few.service(0, 0));
        check.state("a day on which the choir has one", () -> few.service(0, 5));
        CanticlePress full = full();
        full.pass(105);
        check.index("choir, 40 services", () -> full.service(-1, 1000));
        check.index("choir, day, 40 services", () -> full.service(4, 1460));
        check.argument("past day, 40 services", () -> full.service(0, 99));
        check.argument("past day on which the choir has one, 40 services", () -> full.service(0, 104));
        check.argument("day behind the last, 40 services", () -> full.service(3, 1460));
        check.state("40 services", () -> full.service(3, 1459));
        check.state("40 services, and the choir has one on that day", () -> full.service(3, 105));
    }

    private static void pass(Check check) {
        CanticlePress press = new CanticlePress();
        for (int k = 0; k < 7; k++) {
            press.pass(200);
        }
        press.pass(58);
        check.argument("days, above 1459", () -> press.pass(201));
        check.argument("the most of all, above 1459", () -> press.pass(Integer.MAX_VALUE));
        check.argument("days, not above 1459", () -> press.pass(0));
        check.state("above 1459", () -> press.pass(2));
        check.state("above 1459 by the most", () -> press.pass(200));
        check.same("up to 1459", press.pass(1), 1459);
    }
}
