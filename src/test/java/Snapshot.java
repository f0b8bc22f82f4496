/**
 * What can be asked of a press, as a text: wrong calls must leave it as it is.
 *
 * <p>Made for presses of few hymns and services: each object stands only 512 calls.
 */
final class Snapshot {
    private Snapshot() {
    }

    static String of(CanticlePress press, int services, int... days) {
        StringBuilder text = new StringBuilder();
        text.append("hymns ").append(press.hymns()).append(" silent ").append(press.silent());
        for (int hymn = 0; hymn < press.hymns(); hymn++) {
            text.append("\nhymn ").append(hymn).append(':').append(press.pages(hymn));
            text.append(' ').append(press.badTurns(hymn));
            for (int year = 0; year < 4; year++) {
                text.append(' ').append(press.printed(hymn, year));
            }
            for (int day : days) {
                text.append(' ').append(press.hasRight(hymn, CanticlePress.SING, day));
                text.append(' ').append(press.hasRight(hymn, CanticlePress.PRINT, day));
            }
        }
        for (int service = 0; service < services; service++) {
            text.append("\nservice ").append(service).append(':').append(press.hymnOf(service));
        }
        for (int owner = 0; owner < 5; owner++) {
            text.append("\nowner ").append(owner).append(':').append(press.sung(owner, 0));
            text.append(' ').append(press.sungByHymns(owner, 0));
        }
        return text.toString();
    }
}
