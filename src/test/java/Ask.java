/** A call as numbers, so that the same one can be made on a press and on its plain reading. */
final class Ask {
    static final int HYMN = 0, HYMNS = 1, PAGES = 2, PAGE_OF = 3, BAD_TURNS = 4, RIGHT = 5, END = 6, HAS_RIGHT = 7,
        PRINT = 8, PRINTED = 9, LEARN = 10, SERVICE = 11, PLAN = 12, HYMN_OF = 13, SILENT = 14, SUNG = 15,
        SUNG_BY_HYMNS = 16, PASS = 17;

    private static final String[] NAMES = {"hymn", "hymns", "pages", "pageOf", "badTurns", "right", "end", "hasRight",
        "print", "printed", "learn", "service", "plan", "hymnOf", "silent", "sung", "sungByHymns", "pass"};

    private Ask() {
    }

    static String text(int method, int... args) {
        StringBuilder text = new StringBuilder(NAMES[method]).append('(');
        for (int k = 0; k < args.length; k++) {
            text.append(k == 0 ? "" : ", ").append(args[k]);
        }
        return text.append(')').toString();
    }

    static Object outcome(CanticlePress x, int method, int... args) {
        return Check.outcome(() -> of(x, method, args));
    }

    static Object outcome(PlainPress x, int method, int... args) {
        return Check.outcome(() -> of(x, method, args));
    }

    private static Object of(CanticlePress x, int method, int[] a) {
        switch (method) {
            case HYMN: return x.hymn(a[0], a[1], a[2], a[3]);
            case HYMNS: return x.hymns();
            case PAGES: return x.pages(a[0]);
            case PAGE_OF: return x.pageOf(a[0], a[1]);
            case BAD_TURNS: return x.badTurns(a[0]);
            case RIGHT: return x.right(a[0], a[1], a[2], a[3]);
            case END: return x.end(a[0], a[1]);
            case HAS_RIGHT: return x.hasRight(a[0], a[1], a[2]);
            case PRINT: return x.print(a[0], a[1]);
            case PRINTED: return x.printed(a[0], a[1]);
            case LEARN: return x.learn(a[0], a[1]);
            case SERVICE: return x.service(a[0], a[1]);
            case PLAN: return x.plan(a[0]);
            case HYMN_OF: return x.hymnOf(a[0]);
            case SILENT: return x.silent();
            case SUNG: return x.sung(a[0], a[1]);
            case SUNG_BY_HYMNS: return x.sungByHymns(a[0], a[1]);
            default: return x.pass(a[0]);
        }
    }

    private static Object of(PlainPress x, int method, int[] a) {
        switch (method) {
            case HYMN: return x.hymn(a[0], a[1], a[2], a[3]);
            case HYMNS: return x.hymns();
            case PAGES: return x.pages(a[0]);
            case PAGE_OF: return x.pageOf(a[0], a[1]);
            case BAD_TURNS: return x.badTurns(a[0]);
            case RIGHT: return x.right(a[0], a[1], a[2], a[3]);
            case END: return x.end(a[0], a[1]);
            case HAS_RIGHT: return x.hasRight(a[0], a[1], a[2]);
            case PRINT: return x.print(a[0], a[1]);
            case PRINTED: return x.printed(a[0], a[1]);
            case LEARN: return x.learn(a[0], a[1]);
            case SERVICE: return x.service(a[0], a[1]);
            case PLAN: return x.plan(a[0]);
            case HYMN_OF: return x.hymnOf(a[0]);
            case SILENT: return x.silent();
            case SUNG: case SUNG_BY_HYMNS: return x.sung(a[0], a[1]);
            default: return x.pass(a[0]);
        }
    }
}
