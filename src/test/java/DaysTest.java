/** Promise 19: pass. */
public final class DaysTest {
    public static void main(String[] args) {
        Check check = new Check();
        days(check);
        lastDay(check);
        wrongDays(check);
        check.end();
    }

    private static void days(Check check) {
        CanticlePress press = new CanticlePress();
        check.same("a day", press.pass(1), 1);
        check.same("200 days", press.pass(200), 201);
        check.same("services from today on", press.service(0, 201), 0);
        check.argument("no service ahead of today", () -> press.service(0, 200));
    }

    private static void lastDay(Check check) {
        CanticlePress press = new CanticlePress();
        for (int k = 1; k <= 7; k++) {
            check.same("200 days", press.pass(200), 200 * k);
        }
        check.state("a day too many", () -> press.pass(60));
        check.state("the most days", () -> press.pass(200));
        check.argument("days out of their range go ahead", () -> press.pass(201));
        check.same("the last day", press.pass(59), 1459);
        check.state("a day more", () -> press.pass(1));
        check.argument("no days on the last day", () -> press.pass(0));
        check.same("a service on the last day", press.service(0, 1459), 0);
        check.same("which counts", press.silent(), 1);
    }

    private static void wrongDays(Check check) {
        CanticlePress press = new CanticlePress();
        press.pass(10);
        for (int days : new int[] {0, -1, 201, Integer.MIN_VALUE, Integer.MAX_VALUE}) {
            check.argument(days + " days", () -> press.pass(days));
        }
        check.same("wrong days change nothing", press.pass(1), 11);
    }
}
