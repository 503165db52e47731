import java.math.BigInteger;
import java.util.ArrayList;
import java.util.Collections;
import java.util.Comparator;
import java.util.List;

/**
 * The document once more, in another way: whole numbers without a limit, lists made anew for each call, and each
 * set of stations tried for the steady ones. What it throws it throws like the document; the tests compare with it.
 */
final class Model {
    private static final class Watcher {
        int number;
        int place;
        int offset;
        int drift;
        int correction;
        List<int[]> clouds = new ArrayList<>();
    }

    private record Edge(int begin, int place, int speed, int direction) {
    }

    /** A straight line, by which it is told what a station would have read. */
    private record Fit(BigInteger slope, BigInteger base) {
        BigInteger rise(Watcher w) {
            return slope.multiply(big(w.place)).divide(big(100));
        }

        BigInteger guess(Watcher w) {
            return base.add(rise(w));
        }

        BigInteger left(Watcher w, Edge e) {
            return readingOf(w, e).subtract(guess(w));
        }
    }

    private static final int UNKNOWN = -1000000;

    private final List<Watcher> watchers = new ArrayList<>();
    private final List<Edge> edges = new ArrayList<>();

    int build(int place, int offset, int drift) {
        argument(place >= 0 && place <= 999 && Math.abs((long) offset) <= 600 && Math.abs((long) drift) <= 99);
        state(watchers.stream().noneMatch(w -> w.place == place) && watchers.size() < 12);
        Watcher built = new Watcher();
        built.number = watchers.size();
        built.place = place;
        built.offset = offset;
        built.drift = drift;
        watchers.add(built);
        return built.number;
    }

    int cloud(int station, int from, int to) {
        Watcher w = watcher(station);
        argument(from >= 0 && to > from);
        state(w.clouds.size() < 4);
        w.clouds.add(new int[] {from, to});
        return w.clouds.size();
    }

    int clear(int station) {
        Watcher w = watcher(station);
        int before = w.clouds.size();
        w.clouds = new ArrayList<>();
        return before;
    }

    int correct(int station, int correction) {
        Watcher w = watcher(station);
        argument(Math.abs((long) correction) <= 100000);
        int before = w.correction;
        w.correction = correction;
        return before;
    }

    int station(int station, int what) {
        Watcher w = watcher(station);
        index(what >= 0 && what <= 5);
        int sees = (int) edges.stream().filter(e -> sees(w, e)).count();
        return new int[] {w.place, w.offset, w.drift, w.correction, w.clouds.size(), sees}[what];
    }

    int clock(int station, int time) {
        Watcher w = watcher(station);
        argument(time >= 0 && time <= 1000000);
        return small(reads(w, time));
    }

    int addHalo(int begin, int place, int speed, int direction) {
        argument(begin >= 0 && begin <= 100000 && place >= 0 && place <= 999);
        argument(speed >= 1 && speed <= 99 && direction >= -1 && direction <= 1);
        state(edges.size() < 16);
        edges.add(new Edge(begin, place, speed, direction));
        return edges.size() - 1;
    }

    int comes(int halo, int station) {
        Edge e = edge(halo);
        return arrival(watcher(station), e);
    }

    int reading(int halo, int station) {
        Edge e = edge(halo);
        Watcher w = watcher(station);
        return sees(w, e) ? small(readingOf(w, e)) : UNKNOWN;
    }

    int order(int halo, int index) {
        Edge e = edge(halo);
        index(index >= 0);
        List<Watcher> ordered = seers(e);
        ordered.sort(Comparator.comparing((Watcher w) -> readingOf(w, e)).thenComparing(w -> w.number));
        return index < ordered.size() ? ordered.get(index).number : -1;
    }

    int halo(int halo, int what) {
        Edge e = edge(halo);
        index(what >= 0 && what <= 6);
        List<Watcher> seers = seers(e);
        if (what == 0) {
            return seers.size();
        }
        if (what == 5) {
            return Math.max(steady(e, 1), steady(e, -1));
        }
        if (what == 6) {
            int pairs = 0;
            for (Watcher a : seers) {
                for (Watcher b : seers) {
                    pairs += b.place > a.place && readingOf(b, e).compareTo(readingOf(a, e)) < 0 ? 1 : 0;
                }
            }
            return pairs;
        }
        if (seers.size() < 2) {
            return UNKNOWN;
        }
        Fit fit = fit(e);
        Watcher odd = odd(e);
        return small(List.of(fit.slope, fit.base, big(odd.number), fit.left(odd, e)).get(what - 1));
    }

    int guess(int halo, int station) {
        Edge e = edge(halo);
        Watcher w = watcher(station);
        return seers(e).size() < 2 ? UNKNOWN : small(fit(e).guess(w));
    }

    int blame(int station) {
        Watcher w = watcher(station);
        return (int) edges.stream().filter(e -> seers(e).size() > 2 && odd(e) == w).count();
    }

    int advise(int station) {
        Watcher w = watcher(station);
        List<BigInteger> misses = new ArrayList<>();
        for (Edge e : edges) {
            if (sees(w, e) && seers(e).size() >= 3) {
                misses.add(readingOf(w, e).subtract(fit(e).guess(w)));
            }
        }
        return misses.isEmpty() ? w.correction : small(middle(misses).add(big(w.correction)));
    }

    int wire(int from, int to, int time) {
        Watcher a = watcher(from);
        Watcher b = watcher(to);
        argument(time >= 0 && time <= 1000000);
        return small(reads(b, time + Math.abs(a.place - b.place) / 3).subtract(reads(a, time)));
    }

    int align(int station, int time) {
        Watcher one = watcher(station);
        argument(time >= 0 && time <= 1000000);
        int changed = 0;
        List<Integer> due = new ArrayList<>();
        for (Watcher w : watchers) {
            due.add(small(reads(w, time).subtract(reads(one, time)).add(big(w.correction))));
        }
        state(due.stream().allMatch(c -> Math.abs(c) <= 100000));
        for (Watcher w : watchers) {
            changed += w.correction == due.get(w.number) ? 0 : 1;
            w.correction = due.get(w.number);
        }
        return changed;
    }

    int spread(int time) {
        argument(time >= 0 && time <= 1000000);
        List<BigInteger> all = new ArrayList<>();
        watchers.forEach(w -> all.add(reads(w, time)));
        return all.isEmpty() ? 0 : small(Collections.max(all).subtract(Collections.min(all)));
    }

    int count(int what) {
        index(what >= 0 && what <= 4);
        int sightings = edges.stream().mapToInt(e -> seers(e).size()).sum();
        int unseen = (int) edges.stream().filter(e -> seers(e).isEmpty()).count();
        int clouds = watchers.stream().mapToInt(w -> w.clouds.size()).sum();
        return new int[] {watchers.size(), edges.size(), sightings, unseen, clouds}[what];
    }

    double error(int halo) {
        Edge e = edge(halo);
        List<Watcher> seers = seers(e);
        if (seers.size() < 2) {
            return 0;
        }
        Fit fit = fit(e);
        return seers.stream().mapToDouble(w -> fit.left(w, e).abs().doubleValue()).sum() / seers.size();
    }

    long digest() {
        List<Integer> all = new ArrayList<>();
        for (int what = 0; what < 5; what++) {
            all.add(count(what));
        }
        for (int s = 0; s < watchers.size(); s++) {
            for (int what = 0; what < 6; what++) {
                all.add(station(s, what));
            }
        }
        for (int h = 0; h < edges.size(); h++) {
            for (int what = 0; what < 7; what++) {
                all.add(halo(h, what));
            }
            for (int s = 0; s < watchers.size(); s++) {
                all.add(reading(h, s));
            }
        }
        BigInteger d = big(521);
        for (int x : all) {
            d = d.multiply(big(31)).add(big(x));
        }
        return d.longValue();
    }

    // ---- terms

    private static int arrival(Watcher w, Edge e) {
        int sign = Integer.signum(w.place - e.place);
        if (sign != 0 && e.direction == -sign) {
            return -1;
        }
        int way = 100 * Math.abs(w.place - e.place);
        return e.begin + way / e.speed + (way % e.speed == 0 ? 0 : 1);
    }

    private static boolean sees(Watcher w, Edge e) {
        int time = arrival(w, e);
        return time >= 0 && w.clouds.stream().noneMatch(c -> c[0] <= time && time < c[1]);
    }

    private static BigInteger reads(Watcher w, int time) {
        BigInteger drifted = big(w.drift).multiply(big(time)).divide(big(1000));
        return big(time).add(big(w.offset)).add(drifted).subtract(big(w.correction));
    }

    private static BigInteger readingOf(Watcher w, Edge e) {
        return reads(w, arrival(w, e));
    }

    private List<Watcher> seers(Edge e) {
        List<Watcher> seers = new ArrayList<>(watchers);
        seers.removeIf(w -> !sees(w, e));
        return seers;
    }

    private static BigInteger middle(List<BigInteger> all) {
        Collections.sort(all);
        return all.get((all.size() - 1) / 2);
    }

    private BigInteger slope(Edge e) {
        List<Watcher> seers = seers(e);
        List<BigInteger> slopes = new ArrayList<>();
        for (Watcher a : seers) {
            for (Watcher b : seers) {
                if (a.place < b.place) {
                    BigInteger rise = readingOf(b, e).subtract(readingOf(a, e)).multiply(big(100));
                    slopes.add(rise.divide(big(b.place - a.place)));
                }
            }
        }
        return middle(slopes);
    }

    private Fit fit(Edge e) {
        Fit baseless = new Fit(slope(e), BigInteger.ZERO);
        List<BigInteger> bases = new ArrayList<>();
        seers(e).forEach(w -> bases.add(baseless.left(w, e)));
        return new Fit(baseless.slope, middle(bases));
    }

    private Watcher odd(Edge e) {
        Fit fit = fit(e);
        Watcher odd = null;
        for (Watcher w : seers(e)) {
            odd = odd == null || fit.left(w, e).abs().compareTo(fit.left(odd, e).abs()) > 0 ? w : odd;
        }
        return odd;
    }

    private int steady(Edge e, int sign) {
        List<Watcher> seers = seers(e);
        seers.sort(Comparator.comparing(w -> w.place));
        List<BigInteger> readings = new ArrayList<>();
        seers.forEach(w -> readings.add(readingOf(w, e)));
        int most = 0;
        for (int set = 0; set < 1 << readings.size(); set++) {
            most = Integer.bitCount(set) > most && goesOneWay(readings, set, sign) ? Integer.bitCount(set) : most;
        }
        return most;
    }

    private static boolean goesOneWay(List<BigInteger> readings, int set, int sign) {
        BigInteger last = null;
        for (int i = 0; i < readings.size(); i++) {
            if ((set >> i & 1) == 1) {
                if (last != null && readings.get(i).compareTo(last) * sign < 0) {
                    return false;
                }
                last = readings.get(i);
            }
        }
        return true;
    }

    // ---- helpers

    private static BigInteger big(int number) {
        return BigInteger.valueOf(number);
    }

    private static int small(BigInteger number) {
        return number.intValueExact();
    }

    private Watcher watcher(int number) {
        index(number >= 0 && number < watchers.size());
        return watchers.get(number);
    }

    private Edge edge(int number) {
        index(number >= 0 && number < edges.size());
        return edges.get(number);
    }

    private static void index(boolean holds) {
        if (!holds) {
            throw new IndexOutOfBoundsException();
        }
    }

    private static void argument(boolean holds) {
        if (!holds) {
            throw new IllegalArgumentException();
        }
    }

    private static void state(boolean holds) {
        if (!holds) {
            throw new IllegalStateException();
        }
    }
}
