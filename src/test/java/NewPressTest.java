/** Promise 1: a new press has no hymns, rights or services, and today is the day 0. */
public final class NewPressTest {
    public static void main(String[] args) {
        Check check = new Check();
        CanticlePress press = new CanticlePress();
        check.same("hymns()", press.hymns(), 0);
        check.same("silent()", press.silent(), 0);
        for (int owner = 0; owner < 5; owner++) {
            for (int year = 0; year < 4; year++) {
                check.same("sung", press.sung(owner, year), 0);
                check.same("sungByHymns", press.sungByHymns(owner, year), 0);
            }
        }
        check.index("pages(0)", () -> press.pages(0));
        check.index("end(0, 0)", () -> press.end(0, 0));
        check.index("hymnOf(0)", () -> press.hymnOf(0));

        check.same("the first hymn", press.hymn(0, 15, 1, 0), 0);
        check.same("a right of a new hymn", press.hasRight(0, CanticlePress.SING, 0), false);
        check.same("copies of a new hymn", press.printed(0, 0), 0);
        check.same("a service on the day 0", press.service(0, 0), 0);
        check.same("its hymn", press.hymnOf(0), CanticlePress.NONE);
        check.same("a choir knows nothing: it learns", press.learn(3, 0), true);
        check.same("today is the day 0", press.pass(1), 1);

        CanticlePress other = new CanticlePress();
        check.same("presses share nothing", other.hymns(), 0);
        check.same("presses share no day", other.pass(3), 3);
        check.end();
    }
}
