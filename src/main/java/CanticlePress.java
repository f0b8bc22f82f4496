/**
 * A press of hymns, a rights office and a planner of services.
 *
 * <p>All rows are made in the constructor, since what all calls of a run make together is limited.
 */
public final class CanticlePress {
    public static final int NONE = -1;
    public static final int SING = 0, PRINT = 1;

    private static final int OWNERS = 5;
    private static final int MOST_HYMNS = 16;
    private static final int ALL_SEASONS = 15;
    private static final int MOST_LINES = 30;
    private static final int PAGE_LINES = 8;
    private static final int USES = 2;
    private static final int MOST_RIGHTS = 40;
    private static final int MOST_COPIES = 1000;
    private static final int CHOIRS = 4;
    private static final int MOST_SERVICES = 40;
    private static final int REST_DAYS = 28;
    private static final int LAST_DAY = 1459;
    private static final int YEARS = 4;
    private static final int YEAR_DAYS = 365;
    private static final int SEASON_DAYS = 92;
    private static final int MOST_DAYS_TO_PASS = 200;

    private int today;

    private int hymnCount;
    private final int[] ownerOfHymn;
    private final int[] seasonsOfHymn;
    private final int[] linesOfHymn;
    private final int[] restsOfHymn;
    // Bit k where a page ends with the line k and another page follows.
    private final int[] turnsOfHymn;
    // Bit k for the choir k: kept by hymn, so that planning looks at hymns alone.
    private final int[] choirsOfHymn;
    private final int[] copiesOfHymnInYear;

    private int rightCount;
    private final int[] hymnOfRight;
    private final int[] useOfRight;
    private final int[] firstOfRight;
    private final int[] lastOfRight;

    private int serviceCount;
    private final int[] choirOfService;
    private final int[] dayOfService;
    private final int[] hymnOfService;

    public CanticlePress() {
        ownerOfHymn = new int[MOST_HYMNS];
        seasonsOfHymn = new int[MOST_HYMNS];
        linesOfHymn = new int[MOST_HYMNS];
        restsOfHymn = new int[MOST_HYMNS];
        turnsOfHymn = new int[MOST_HYMNS];
        choirsOfHymn = new int[MOST_HYMNS];
        copiesOfHymnInYear = new int[MOST_HYMNS * YEARS];
        hymnOfRight = new int[MOST_RIGHTS];
        useOfRight = new int[MOST_RIGHTS];
        firstOfRight = new int[MOST_RIGHTS];
        lastOfRight = new int[MOST_RIGHTS];
        choirOfService = new int[MOST_SERVICES];
        dayOfService = new int[MOST_SERVICES];
        hymnOfService = new int[MOST_SERVICES];
    }

    // ---- hymns and pages

    public int hymn(int owner, int seasons, int lines, int rests)
            throws IndexOutOfBoundsException, IllegalArgumentException, IllegalStateException {
        needIndex(isOwner(owner));
        needArgument(isBetween(seasons, 1, ALL_SEASONS));
        needArgument(isBetween(lines, 1, MOST_LINES));
        needArgument(isBetween(rests, 0, (1 << lines) - 1));
        needState(hymnCount < MOST_HYMNS);
        int hymn = hymnCount;
        ownerOfHymn[hymn] = owner;
        seasonsOfHymn[hymn] = seasons;
        linesOfHymn[hymn] = lines;
        restsOfHymn[hymn] = rests;
        turnsOfHymn[hymn] = turns(lines, rests);
        hymnCount++;
        return hymn;
    }

    public int hymns() {
        return hymnCount;
    }

    public int pages(int hymn) throws IndexOutOfBoundsException {
        needIndex(isHymn(hymn));
        return pageCount(hymn);
    }

    public int pageOf(int hymn, int line) throws IndexOutOfBoundsException {
        needIndex(isHymn(hymn));
        needIndex(isBetween(line, 0, linesOfHymn[hymn] - 1));
        int linesAhead = (1 << line) - 1;
        return Integer.bitCount(turnsOfHymn[hymn] & linesAhead);
    }

    public int badTurns(int hymn) throws IndexOutOfBoundsException {
        needIndex(isHymn(hymn));
        return Integer.bitCount(turnsOfHymn[hymn] & ~restsOfHymn[hymn]);
    }

    private int pageCount(int hymn) {
        return Integer.bitCount(turnsOfHymn[hymn]) + 1;
    }

    private static int turns(int lines, int rests) {
        int turns = 0;
        int start = 0;
        for (int page = 0; page < lines && lines - start > PAGE_LINES; page++) {
            int last = lastLineOfFullPage(start, rests);
            turns |= 1 << last;
            start = last + 1;
        }
        return turns;
    }

    private static int lastLineOfFullPage(int start, int rests) {
        int bottom = start + PAGE_LINES - 1;
        for (int line = bottom; line >= start; line--) {
            if (isInSet(line, rests)) {
                return line;
            }
        }
        return bottom;
    }

    // ---- rights and printing

    public int right(int hymn, int use, int first, int last)
            throws IndexOutOfBoundsException, IllegalArgumentException, IllegalStateException {
        needIndex(isHymn(hymn));
        needIndex(isUse(use));
        needArgument(isDay(first));
        needArgument(isBetween(last, first, LAST_DAY));
        needState(rightCount < MOST_RIGHTS);
        int right = rightCount;
        hymnOfRight[right] = hymn;
        useOfRight[right] = use;
        firstOfRight[right] = first;
        lastOfRight[right] = last;
        rightCount++;
        return right;
    }

    public int end(int right, int last)
            throws IndexOutOfBoundsException, IllegalArgumentException, IllegalStateException {
        needIndex(isRight(right));
        needArgument(isBetween(last, today - 1, LAST_DAY));
        needState(lastOfRight[right] > last);
        lastOfRight[right] = last;
        long silenced = silenceServicesWithoutRight();
        planEach(silenced);
        return Long.bitCount(silenced);
    }

    public boolean hasRight(int hymn, int use, int day)
            throws IndexOutOfBoundsException, IllegalArgumentException {
        needIndex(isHymn(hymn));
        needIndex(isUse(use));
        needArgument(isDay(day));
        return isAllowed(hymn, use, day);
    }

    public int print(int hymn, int copies)
            throws IndexOutOfBoundsException, IllegalArgumentException, IllegalStateException {
        needIndex(isHymn(hymn));
        needArgument(isBetween(copies, 1, MOST_COPIES));
        needState(isAllowed(hymn, PRINT, today));
        copiesOfHymnInYear[hymn * YEARS + yearOf(today)] += copies;
        return copies * pageCount(hymn);
    }

    public int printed(int hymn, int year) throws IndexOutOfBoundsException {
        needIndex(isHymn(hymn));
        needIndex(isYear(year));
        return copiesOfHymnInYear[hymn * YEARS + year];
    }

    private boolean isAllowed(int hymn, int use, int day) {
        for (int right = 0; right < rightCount; right++) {
            if (hymnOfRight[right] == hymn && useOfRight[right] == use
                    && isBetween(day, firstOfRight[right], lastOfRight[right])) {
                return true;
            }
        }
        return false;
    }

    // ---- choirs and services

    public boolean learn(int choir, int hymn) throws IndexOutOfBoundsException {
        needIndex(isChoir(choir));
        needIndex(isHymn(hymn));
        choirsOfHymn[hymn] ^= 1 << choir;
        return isInSet(choir, choirsOfHymn[hymn]);
    }

    public int service(int choir, int day)
            throws IndexOutOfBoundsException, IllegalArgumentException, IllegalStateException {
        needIndex(isChoir(choir));
        needArgument(isBetween(day, today, LAST_DAY));
        needState(serviceCount < MOST_SERVICES);
        needState(!hasServiceOn(choir, day));
        int service = serviceCount;
        choirOfService[service] = choir;
        dayOfService[service] = day;
        serviceCount++;
        planAnew(service);
        return service;
    }

    public int plan(int service) throws IndexOutOfBoundsException, IllegalStateException {
        needIndex(isService(service));
        needState(dayOfService[service] >= today);
        planAnew(service);
        return hymnOfService[service];
    }

    public int hymnOf(int service) throws IndexOutOfBoundsException {
        needIndex(isService(service));
        return hymnOfService[service];
    }

    public int silent() {
        int count = 0;
        for (int service = 0; service < serviceCount; service++) {
            if (dayOfService[service] <= today && hymnOfService[service] == NONE) {
                count++;
            }
        }
        return count;
    }

    private boolean hasServiceOn(int choir, int day) {
        for (int service = 0; service < serviceCount; service++) {
            if (choirOfService[service] == choir && dayOfService[service] == day) {
                return true;
            }
        }
        return false;
    }

    // Without its old hymn first: that one must neither count as a use nor stand in its own way.
    private void planAnew(int service) {
        hymnOfService[service] = NONE;
        hymnOfService[service] = bestHymn(choirOfService[service], dayOfService[service]);
    }

    private int bestHymn(int choir, int day) {
        int best = NONE;
        int fewest = 0;
        for (int hymn = 0; hymn < hymnCount; hymn++) {
            if (isSuitable(hymn, choir, day)) {
                int services = servicesWith(hymn);
                if (best == NONE || services < fewest) {
                    best = hymn;
                    fewest = services;
                }
            }
        }
        return best;
    }

    private boolean isSuitable(int hymn, int choir, int day) {
        return isInSet(choir, choirsOfHymn[hymn])
                && isInSet(seasonOf(day), seasonsOfHymn[hymn])
                && isAllowed(hymn, SING, day)
                && isRested(hymn, choir, day);
    }

    private boolean isRested(int hymn, int choir, int day) {
        for (int service = 0; service < serviceCount; service++) {
            if (choirOfService[service] == choir && hymnOfService[service] == hymn
                    && Math.abs(dayOfService[service] - day) < REST_DAYS) {
                return false;
            }
        }
        return true;
    }

    private int servicesWith(int hymn) {
        int count = 0;
        for (int service = 0; service < serviceCount; service++) {
            if (hymnOfService[service] == hymn) {
                count++;
            }
        }
        return count;
    }

    // Told as a set, bit k for the service k: all are to be silent before the first one is planned anew.
    private long silenceServicesWithoutRight() {
        long silenced = 0;
        for (int service = 0; service < serviceCount; service++) {
            if (hasLostItsRight(service)) {
                hymnOfService[service] = NONE;
                silenced |= 1L << service;
            }
        }
        return silenced;
    }

    private boolean hasLostItsRight(int service) {
        int hymn = hymnOfService[service];
        int day = dayOfService[service];
        return day >= today && hymn != NONE && !isAllowed(hymn, SING, day);
    }

    private void planEach(long services) {
        for (int service = 0; service < serviceCount; service++) {
            if (isInSet(service, services)) {
                planAnew(service);
            }
        }
    }

    // ---- reports and days

    public int sung(int owner, int year) throws IndexOutOfBoundsException {
        needIndex(isOwner(owner));
        needIndex(isYear(year));
        int count = 0;
        for (int service = 0; service < serviceCount; service++) {
            int hymn = hymnOfService[service];
            if (isHeldIn(service, year) && isHymn(hymn) && ownerOfHymn[hymn] == owner) {
                count++;
            }
        }
        return count;
    }

    public int sungByHymns(int owner, int year) throws IndexOutOfBoundsException {
        needIndex(isOwner(owner));
        needIndex(isYear(year));
        int count = 0;
        for (int hymn = 0; hymn < hymnCount; hymn++) {
            if (ownerOfHymn[hymn] == owner) {
                count += timesSung(hymn, year);
            }
        }
        return count;
    }

    public int pass(int days) throws IllegalArgumentException, IllegalStateException {
        needArgument(isBetween(days, 1, MOST_DAYS_TO_PASS));
        needState(today + days <= LAST_DAY);
        today += days;
        return today;
    }

    private int timesSung(int hymn, int year) {
        int count = 0;
        for (int service = 0; service < serviceCount; service++) {
            if (isHeldIn(service, year) && hymnOfService[service] == hymn) {
                count++;
            }
        }
        return count;
    }

    private boolean isHeldIn(int service, int year) {
        int day = dayOfService[service];
        return day <= today && yearOf(day) == year;
    }

    private static int yearOf(int day) {
        return day / YEAR_DAYS;
    }

    private static int seasonOf(int day) {
        return day % YEAR_DAYS / SEASON_DAYS;
    }

    // ---- what calls need

    private static boolean isOwner(int owner) {
        return isBetween(owner, 0, OWNERS - 1);
    }

    private boolean isHymn(int hymn) {
        return isBetween(hymn, 0, hymnCount - 1);
    }

    private boolean isRight(int right) {
        return isBetween(right, 0, rightCount - 1);
    }

    private boolean isService(int service) {
        return isBetween(service, 0, serviceCount - 1);
    }

    private static boolean isChoir(int choir) {
        return isBetween(choir, 0, CHOIRS - 1);
    }

    private static boolean isUse(int use) {
        return isBetween(use, 0, USES - 1);
    }

    private static boolean isDay(int day) {
        return isBetween(day, 0, LAST_DAY);
    }

    private static boolean isYear(int year) {
        return isBetween(year, 0, YEARS - 1);
    }

    private static boolean isBetween(int number, int least, int most) {
        return least <= number && number <= most;
    }

    private static boolean isInSet(int element, long set) {
        return (set >> element & 1) == 1;
    }

    private static void needIndex(boolean holds) {
        if (!holds) {
            throw new IndexOutOfBoundsException();
        }
    }

    private static void needArgument(boolean holds) {
        if (!holds) {
            throw new IllegalArgumentException();
        }
    }

    private static void needState(boolean holds) {
        if (!holds) {
            throw new IllegalStateException();
        }
    }
}
