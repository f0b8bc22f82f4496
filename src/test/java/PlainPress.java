import java.util.ArrayList;
import java.util.BitSet;
import java.util.HashSet;
import java.util.List;
import java.util.Set;
import java.util.TreeSet;

/** The document read word by word, with the Java library and without thrift: RunsTest holds the press against it. */
final class PlainPress {
    private static final class Hymn {
        int owner;
        Set<Integer> seasons = new HashSet<>();
        Set<Integer> rests = new HashSet<>();
        List<List<Integer>> pages = new ArrayList<>();
        int[] printed = new int[4];
    }

    private record Right(int hymn, int use, BitSet days, int[] firstAndLast) {
    }

    private static final class Service {
        int choir;
        int day;
        Integer hymn;
    }

    private final List<Hymn> hymns = new ArrayList<>();
    private final List<Right> rights = new ArrayList<>();
    private final List<Service> services = new ArrayList<>();
    private final List<Set<Integer>> known =
            List.of(new TreeSet<>(), new TreeSet<>(), new TreeSet<>(), new TreeSet<>());
    private int today = 0;

    int today() {
        return today;
    }

    int rights() {
        return rights.size();
    }

    int services() {
        return services.size();
    }

    int hymn(int owner, int seasons, int lines, int rests) {
        index(owner < 0 || owner > 4);
        argument(seasons < 1 || seasons > 15 || lines < 1 || lines > 30);
        argument(rests < 0 || rests >= Math.pow(2, lines));
        state(hymns.size() == 16);
        Hymn hymn = new Hymn();
        hymn.owner = owner;
        hymn.seasons = elements(seasons);
        hymn.rests = elements(rests);
        List<Integer> left = new ArrayList<>();
        for (int line = 0; line < lines; line++) {
            left.add(line);
        }
        while (!left.isEmpty()) {
            List<Integer> page = left.subList(0, linesOfNextPage(left, hymn.rests));
            hymn.pages.add(new ArrayList<>(page));
            page.clear();
        }
        hymns.add(hymn);
        return hymns.size() - 1;
    }

    private static Set<Integer> elements(int set) {
        Set<Integer> elements = new HashSet<>();
        for (int k = 0; k < 31; k++) {
            if ((set & 1 << k) != 0) {
                elements.add(k);
            }
        }
        return elements;
    }

    private static int linesOfNextPage(List<Integer> left, Set<Integer> rests) {
        if (left.size() <= 8) {
            return left.size();
        }
        int count = 8;
        for (int k = 0; k < 8; k++) {
            if (rests.contains(left.get(k))) {
                count = k + 1;
            }
        }
        return count;
    }

    int hymns() {
        return hymns.size();
    }

    int pages(int hymn) {
        return told(hymn).pages.size();
    }

    int pageOf(int hymn, int line) {
        List<List<Integer>> pages = told(hymn).pages;
        for (int page = 0; page < pages.size(); page++) {
            if (pages.get(page).contains(line)) {
                return page;
            }
        }
        throw new IndexOutOfBoundsException();
    }

    int badTurns(int hymn) {
        int bad = 0;
        List<List<Integer>> pages = told(hymn).pages;
        for (List<Integer> page : pages.subList(0, pages.size() - 1)) {
            bad += told(hymn).rests.contains(page.get(page.size() - 1)) ? 0 : 1;
        }
        return bad;
    }

    int right(int hymn, int use, int first, int last) {
        told(hymn);
        index(use != 0 && use != 1);
        argument(first < 0 || first > 1459 || last < first || last > 1459);
        state(rights.size() == 40);
        BitSet days = new BitSet();
        days.set(first, last + 1);
        rights.add(new Right(hymn, use, days, new int[] {first, last}));
        return rights.size() - 1;
    }

    int end(int right, int last) {
        index(right < 0 || right >= rights.size());
        argument(last < today - 1 || last > 1459);
        Right ended = rights.get(right);
        state(ended.firstAndLast[1] <= last);
        ended.firstAndLast[1] = last;
        ended.days.clear(last + 1, 1460);
        List<Service> lost = new ArrayList<>();
        for (Service service : services) {
            if (service.day >= today && service.hymn != null && !hasRight(service.hymn, 0, service.day)) {
                lost.add(service);
            }
        }
        for (Service service : lost) {
            service.hymn = null;
        }
        for (Service service : lost) {
            plan(service);
        }
        return lost.size();
    }

    boolean hasRight(int hymn, int use, int day) {
        told(hymn);
        index(use != 0 && use != 1);
        argument(day < 0 || day > 1459);
        return rights.stream().anyMatch(r -> r.hymn == hymn && r.use == use && r.days.get(day));
    }

    int print(int hymn, int copies) {
        told(hymn);
        argument(copies < 1 || copies > 1000);
        state(!hasRight(hymn, 1, today));
        told(hymn).printed[year(today)] += copies;
        return pages(hymn) * copies;
    }

    int printed(int hymn, int year) {
        told(hymn);
        index(year < 0 || year > 3);
        return told(hymn).printed[year];
    }

    boolean learn(int choir, int hymn) {
        index(choir < 0 || choir > 3);
        told(hymn);
        if (known.get(choir).remove(hymn)) {
            return false;
        }
        return known.get(choir).add(hymn);
    }

    int service(int choir, int day) {
        index(choir < 0 || choir > 3);
        argument(day < today || day > 1459);
        state(services.size() == 40);
        state(services.stream().anyMatch(s -> s.choir == choir && s.day == day));
        Service service = new Service();
        service.choir = choir;
        service.day = day;
        services.add(service);
        plan(service);
        return services.size() - 1;
    }

    int plan(int service) {
        index(service < 0 || service >= services.size());
        state(services.get(service).day < today);
        services.get(service).hymn = null;
        plan(services.get(service));
        return hymnOf(service);
    }

    private void plan(Service planned) {
        List<Integer> candidates = new ArrayList<>(known.get(planned.choir));
        candidates.removeIf(h -> !hymns.get(h).seasons.contains(season(planned.day)));
        candidates.removeIf(h -> !hasRight(h, 0, planned.day));
        candidates.removeIf(h -> services.stream().anyMatch(s -> s != planned && s.choir == planned.choir
                && s.hymn != null && s.hymn.equals(h) && Math.abs(s.day - planned.day) < 28));
        long fewest = candidates.stream().mapToLong(this::uses).min().orElse(0);
        planned.hymn = candidates.stream().filter(h -> uses(h) == fewest).min(Integer::compare).orElse(null);
    }

    private long uses(int hymn) {
        return services.stream().filter(s -> s.hymn != null && s.hymn == hymn).count();
    }

    int hymnOf(int service) {
        index(service < 0 || service >= services.size());
        Integer hymn = services.get(service).hymn;
        return hymn == null ? -1 : hymn;
    }

    int silent() {
        return (int) services.stream().filter(s -> s.day <= today && s.hymn == null).count();
    }

    int sung(int owner, int year) {
        index(owner < 0 || owner > 4 || year < 0 || year > 3);
        return (int) services.stream().filter(s -> s.day <= today && year(s.day) == year)
                .filter(s -> s.hymn != null && hymns.get(s.hymn).owner == owner).count();
    }

    int pass(int days) {
        argument(days < 1 || days > 200);
        state(today + days > 1459);
        today += days;
        return today;
    }

    private static int year(int day) {
        return (int) Math.floor(day / 365.0);
    }

    private static int season(int day) {
        return (int) Math.floor((day - 365 * year(day)) / 92.0);
    }

    private Hymn told(int hymn) {
        index(hymn < 0 || hymn >= hymns.size());
        return hymns.get(hymn);
    }

    private static void index(boolean wrong) {
        if (wrong) {
            throw new IndexOutOfBoundsException();
        }
    }

    private static void argument(boolean wrong) {
        if (wrong) {
            throw new IllegalArgumentException();
        }
    }

    private static void state(boolean wrong) {
        if (wrong) {
            throw new IllegalStateException();
        }
    }
}
