import java.util.ArrayList;

/** A line of watchers who time the edges of halos. */
public final class SundogLine {
    private static final int MOST_STATIONS = 12;
    private static final int MOST_CLOUDS = 4;
    private static final int MOST_HALOS = 16;
    private static final int MOST_PAIRS = MOST_STATIONS * (MOST_STATIONS - 1) / 2;
    private static final int LAST_PLACE = 999;
    private static final int LAST_BEGIN = 100000;
    private static final int LAST_TIME = 1000000;
    private static final int MOST_OFFSET = 600;
    private static final int MOST_DRIFT = 99;
    private static final int MOST_SPEED = 99;
    private static final int MOST_CORRECTION = 100000;
    private static final int STATION_KINDS = 6;
    private static final int HALO_KINDS = 7;
    private static final int COUNT_KINDS = 5;
    private static final int NEVER = -1;
    private static final int NO_STATION = -1;
    private static final int UNKNOWN = -1000000;

    private final ArrayList<Station> stations;
    private final ArrayList<Station> byPlace;
    private final ArrayList<Halo> halos;
    // Reckonings are made anew for each call, in rows that are made once.
    private final Reckoning reckoning;
    private final int[] misses;

    public SundogLine() {
        stations = new ArrayList<Station>();
        byPlace = new ArrayList<Station>();
        halos = new ArrayList<Halo>();
        reckoning = new Reckoning();
        misses = new int[MOST_HALOS];
    }

    // ---- stations

    public int build(int place, int offset, int drift) throws IllegalArgumentException, IllegalStateException {
        if (outside(place, 0, LAST_PLACE) || outside(offset, -MOST_OFFSET, MOST_OFFSET)
                || outside(drift, -MOST_DRIFT, MOST_DRIFT)) {
            throw new IllegalArgumentException();
        }
        if (isTaken(place) || stations.size() >= MOST_STATIONS) {
            throw new IllegalStateException();
        }
        int number = stations.size();
        Station built = new Station(number, place, offset, drift);
        stations.add(built);
        byPlace.add(stationsBefore(place), built);
        return number;
    }

    public int cloud(int station, int from, int to)
            throws IndexOutOfBoundsException, IllegalArgumentException, IllegalStateException {
        if (noStation(station)) {
            throw new IndexOutOfBoundsException();
        }
        if (from < 0 || to <= from) {
            throw new IllegalArgumentException();
        }
        Station under = stations.get(station);
        if (under.isFullOfClouds()) {
            throw new IllegalStateException();
        }
        under.cover(from, to);
        return under.clouds;
    }

    public int clear(int station) throws IndexOutOfBoundsException {
        if (noStation(station)) {
            throw new IndexOutOfBoundsException();
        }
        Station under = stations.get(station);
        int before = under.clouds;
        under.clouds = 0;
        return before;
    }

    public int correct(int station, int correction) throws IndexOutOfBoundsException, IllegalArgumentException {
        if (noStation(station)) {
            throw new IndexOutOfBoundsException();
        }
        if (outside(correction, -MOST_CORRECTION, MOST_CORRECTION)) {
            throw new IllegalArgumentException();
        }
        Station set = stations.get(station);
        int before = set.correction;
        set.correction = correction;
        return before;
    }

    public int station(int station, int what) throws IndexOutOfBoundsException {
        if (noStation(station) || outside(what, 0, STATION_KINDS - 1)) {
            throw new IndexOutOfBoundsException();
        }
        return tellOfStation(stations.get(station), what);
    }

    public int clock(int station, int time) throws IndexOutOfBoundsException, IllegalArgumentException {
        if (noStation(station)) {
            throw new IndexOutOfBoundsException();
        }
        if (outside(time, 0, LAST_TIME)) {
            throw new IllegalArgumentException();
        }
        return stations.get(station).readsAt(time);
    }

    // ---- halos

    public int addHalo(int begin, int place, int speed, int direction)
            throws IllegalArgumentException, IllegalStateException {
        if (outside(begin, 0, LAST_BEGIN) || outside(place, 0, LAST_PLACE)
                || outside(speed, 1, MOST_SPEED) || outside(direction, -1, 1)) {
            throw new IllegalArgumentException();
        }
        if (halos.size() >= MOST_HALOS) {
            throw new IllegalStateException();
        }
        halos.add(new Halo(begin, place, speed, direction));
        return halos.size() - 1;
    }

    public int comes(int halo, int station) throws IndexOutOfBoundsException {
        if (noHalo(halo) || noStation(station)) {
            throw new IndexOutOfBoundsException();
        }
        return halos.get(halo).timeAt(stations.get(station).place);
    }

    public int reading(int halo, int station) throws IndexOutOfBoundsException {
        if (noHalo(halo) || noStation(station)) {
            throw new IndexOutOfBoundsException();
        }
        return stations.get(station).readingOf(halos.get(halo));
    }

    public int order(int halo, int index) throws IndexOutOfBoundsException {
        if (noHalo(halo) || index < 0) {
            throw new IndexOutOfBoundsException();
        }
        reckoning.look(halos.get(halo), byPlace);
        return reckoning.stationInOrder(index);
    }

    // ---- reckoning

    public int halo(int halo, int what) throws IndexOutOfBoundsException {
        if (noHalo(halo) || outside(what, 0, HALO_KINDS - 1)) {
            throw new IndexOutOfBoundsException();
        }
        reckoning.reckon(halos.get(halo), byPlace);
        return reckoning.tell(what);
    }

    public int guess(int halo, int station) throws IndexOutOfBoundsException {
        if (noHalo(halo) || noStation(station)) {
            throw new IndexOutOfBoundsException();
        }
        reckoning.reckon(halos.get(halo), byPlace);
        return reckoning.guessAt(stations.get(station).place);
    }

    public int blame(int station) throws IndexOutOfBoundsException {
        if (noStation(station)) {
            throw new IndexOutOfBoundsException();
        }
        int blamed = 0;
        for (int h = 0; h < halos.size(); h++) {
            reckoning.reckon(halos.get(h), byPlace);
            if (reckoning.seen > 2 && reckoning.odd == station) {
                blamed++;
            }
        }
        return blamed;
    }

    public int advise(int station) throws IndexOutOfBoundsException {
        if (noStation(station)) {
            throw new IndexOutOfBoundsException();
        }
        int known = gatherMisses(stations.get(station));
        int now = stations.get(station).correction;
        return known == 0 ? now : now + middle(misses, known);
    }

    // ---- the wire

    public int wire(int from, int to, int time) throws IndexOutOfBoundsException, IllegalArgumentException {
        if (noStation(from) || noStation(to)) {
            throw new IndexOutOfBoundsException();
        }
        if (outside(time, 0, LAST_TIME)) {
            throw new IllegalArgumentException();
        }
        Station sender = stations.get(from);
        Station receiver = stations.get(to);
        int arrival = time + Math.abs(receiver.place - sender.place) / 3;
        return receiver.readsAt(arrival) - sender.readsAt(time);
    }

    public int align(int station, int time)
            throws IndexOutOfBoundsException, IllegalArgumentException, IllegalStateException {
        if (noStation(station)) {
            throw new IndexOutOfBoundsException();
        }
        if (outside(time, 0, LAST_TIME)) {
            throw new IllegalArgumentException();
        }
        int common = stations.get(station).readsAt(time);
        // All corrections are looked at before the first is set: a refusal changes nothing.
        for (int s = 0; s < stations.size(); s++) {
            int needed = stations.get(s).correctionToRead(common, time);
            if (outside(needed, -MOST_CORRECTION, MOST_CORRECTION)) {
                throw new IllegalStateException();
            }
        }
        return setAll(common, time);
    }

    public int spread(int time) throws IllegalArgumentException {
        if (outside(time, 0, LAST_TIME)) {
            throw new IllegalArgumentException();
        }
        if (stations.isEmpty()) {
            return 0;
        }
        int least = stations.get(0).readsAt(time);
        int greatest = least;
        for (int s = 1; s < stations.size(); s++) {
            int reads = stations.get(s).readsAt(time);
            least = Math.min(least, reads);
            greatest = Math.max(greatest, reads);
        }
        return greatest - least;
    }

    public int count(int what) throws IndexOutOfBoundsException {
        if (outside(what, 0, COUNT_KINDS - 1)) {
            throw new IndexOutOfBoundsException();
        }
        return countOf(what);
    }

    public double error(int halo) throws IndexOutOfBoundsException {
        if (noHalo(halo)) {
            throw new IndexOutOfBoundsException();
        }
        reckoning.reckon(halos.get(halo), byPlace);
        return reckoning.meanLeft();
    }

    public long digest() {
        long d = 521;
        for (int what = 0; what < COUNT_KINDS; what++) {
            d = d * 31 + countOf(what);
        }
        for (int s = 0; s < stations.size(); s++) {
            for (int what = 0; what < STATION_KINDS; what++) {
                d = d * 31 + tellOfStation(stations.get(s), what);
            }
        }
        for (int h = 0; h < halos.size(); h++) {
            d = digestHalo(d, halos.get(h));
        }
        return d;
    }

    // ---- helpers

    private static boolean outside(int number, int least, int greatest) {
        return number < least || number > greatest;
    }

    private boolean noStation(int number) {
        return outside(number, 0, stations.size() - 1);
    }

    private boolean noHalo(int number) {
        return outside(number, 0, halos.size() - 1);
    }

    private boolean isTaken(int place) {
        for (int s = 0; s < stations.size(); s++) {
            if (stations.get(s).place == place) {
                return true;
            }
        }
        return false;
    }

    private int stationsBefore(int place) {
        int before = 0;
        for (int s = 0; s < byPlace.size(); s++) {
            if (byPlace.get(s).place < place) {
                before++;
            }
        }
        return before;
    }

    private int tellOfStation(Station told, int what) {
        switch (what) {
            case 0:
                return told.place;
            case 1:
                return told.offset;
            case 2:
                return told.drift;
            case 3:
                return told.correction;
            case 4:
                return told.clouds;
            default:
                return halosSeenBy(told);
        }
    }

    private int halosSeenBy(Station watcher) {
        int seen = 0;
        for (int h = 0; h < halos.size(); h++) {
            if (watcher.sees(halos.get(h))) {
                seen++;
            }
        }
        return seen;
    }

    private int stationsThatSee(Halo seen) {
        int watchers = 0;
        for (int s = 0; s < stations.size(); s++) {
            if (stations.get(s).sees(seen)) {
                watchers++;
            }
        }
        return watchers;
    }

    private int gatherMisses(Station watcher) {
        int known = 0;
        for (int h = 0; h < halos.size(); h++) {
            if (watcher.sees(halos.get(h))) {
                reckoning.reckon(halos.get(h), byPlace);
                if (reckoning.seen >= 3 && known < misses.length) {
                    misses[known] = watcher.readingOf(halos.get(h)) - reckoning.guessAt(watcher.place);
                    known++;
                }
            }
        }
        return known;
    }

    private int setAll(int common, int time) {
        int changed = 0;
        for (int s = 0; s < stations.size(); s++) {
            Station set = stations.get(s);
            int needed = set.correctionToRead(common, time);
            if (needed != set.correction) {
                changed++;
            }
            set.correction = needed;
        }
        return changed;
    }

    private int countOf(int what) {
        switch (what) {
            case 0:
                return stations.size();
            case 1:
                return halos.size();
            case 2:
                return sightings();
            case 3:
                return unseenHalos();
            default:
                return allClouds();
        }
    }

    private int sightings() {
        int sum = 0;
        for (int h = 0; h < halos.size(); h++) {
            sum += stationsThatSee(halos.get(h));
        }
        return sum;
    }

    private int unseenHalos() {
        int unseen = 0;
        for (int h = 0; h < halos.size(); h++) {
            if (stationsThatSee(halos.get(h)) == 0) {
                unseen++;
            }
        }
        return unseen;
    }

    private int allClouds() {
        int sum = 0;
        for (int s = 0; s < stations.size(); s++) {
            sum += stations.get(s).clouds;
        }
        return sum;
    }

    private long digestHalo(long start, Halo told) {
        long d = start;
        reckoning.reckon(told, byPlace);
        for (int what = 0; what < HALO_KINDS; what++) {
            d = d * 31 + reckoning.tell(what);
        }
        for (int s = 0; s < stations.size(); s++) {
            d = d * 31 + stations.get(s).readingOf(told);
        }
        return d;
    }

    /** Puts the first numbers of a row in ascending order, and answers the middle one, of two the lesser. */
    private static int middle(int[] row, int length) {
        if (length < 1 || length > row.length) {
            return 0;
        }
        for (int next = 1; next < length; next++) {
            int moved = row[next];
            int to = next;
            while (to > 0 && row[to - 1] > moved) {
                row[to] = row[to - 1];
                to--;
            }
            row[to] = moved;
        }
        return row[(length - 1) / 2];
    }

    /** A station with its clock and the clouds over it. */
    private static final class Station {
        final int number;
        final int place;
        final int offset;
        final int drift;
        int correction;
        int clouds;
        private final int[] cloudFrom;
        private final int[] cloudTo;

        Station(int number, int place, int offset, int drift) {
            this.number = number;
            this.place = place;
            this.offset = offset;
            this.drift = drift;
            cloudFrom = new int[MOST_CLOUDS];
            cloudTo = new int[MOST_CLOUDS];
        }

        private int uncorrectedAt(int time) {
            return time + offset + drift * time / 1000;
        }

        int readsAt(int time) {
            return uncorrectedAt(time) - correction;
        }

        int correctionToRead(int wanted, int time) {
            return uncorrectedAt(time) - wanted;
        }

        boolean isFullOfClouds() {
            return clouds >= MOST_CLOUDS;
        }

        void cover(int from, int to) {
            if (clouds >= 0 && clouds < cloudFrom.length && clouds < cloudTo.length) {
                cloudFrom[clouds] = from;
                cloudTo[clouds] = to;
                clouds++;
            }
        }

        private boolean isCoveredAt(int time) {
            for (int c = 0; c < clouds && c < cloudFrom.length && c < cloudTo.length; c++) {
                if (cloudFrom[c] <= time && time < cloudTo[c]) {
                    return true;
                }
            }
            return false;
        }

        private boolean seesAt(int time) {
            return time != NEVER && !isCoveredAt(time);
        }

        boolean sees(Halo seen) {
            return seesAt(seen.timeAt(place));
        }

        int readingOf(Halo seen) {
            int time = seen.timeAt(place);
            return seesAt(time) ? readsAt(time) : UNKNOWN;
        }
    }

    /** A halo, whose edge runs along the line. */
    private static final class Halo {
        private final int begin;
        private final int place;
        private final int speed;
        private final int direction;

        Halo(int begin, int place, int speed, int direction) {
            this.begin = begin;
            this.place = place;
            this.speed = speed;
            this.direction = direction;
        }

        int timeAt(int where) {
            int way = where - place;
            boolean against = direction > 0 && way < 0 || direction < 0 && way > 0;
            // A halo that stands still is never told; its speed is looked at because it divides.
            if (against || speed < 1) {
                return NEVER;
            }
            return begin + (100 * Math.abs(way) + speed - 1) / speed;
        }
    }

    /** What is reckoned of one halo; its rows tell the stations that see it in ascending order of their places. */
    private static final class Reckoning {
        int seen;
        int odd;
        private int slope;
        private int base;
        private int leftOfOdd;
        private final int[] numbers;
        private final int[] places;
        private final int[] readings;
        private final int[] left;
        private final int[] work;
        private final int[] slopes;

        Reckoning() {
            numbers = new int[MOST_STATIONS];
            places = new int[MOST_STATIONS];
            readings = new int[MOST_STATIONS];
            left = new int[MOST_STATIONS];
            work = new int[MOST_STATIONS];
            slopes = new int[MOST_PAIRS];
        }

        void reckon(Halo halo, ArrayList<Station> byPlace) {
            look(halo, byPlace);
            slope = UNKNOWN;
            base = UNKNOWN;
            odd = UNKNOWN;
            leftOfOdd = UNKNOWN;
            if (seen >= 2) {
                slope = middleSlope();
                base = middleBase();
                findOdd();
            }
        }

        void look(Halo halo, ArrayList<Station> byPlace) {
            seen = 0;
            for (int s = 0; s < byPlace.size() && seen < MOST_STATIONS; s++) {
                Station watcher = byPlace.get(s);
                if (watcher.sees(halo)) {
                    numbers[seen] = watcher.number;
                    places[seen] = watcher.place;
                    readings[seen] = watcher.readingOf(halo);
                    seen++;
                }
            }
        }

        private int middleSlope() {
            int pairs = 0;
            for (int b = 1; b < seen; b++) {
                for (int a = 0; a < b; a++) {
                    int way = places[b] - places[a];
                    if (way > 0 && pairs < slopes.length) {
                        slopes[pairs] = 100 * (readings[b] - readings[a]) / way;
                        pairs++;
                    }
                }
            }
            return middle(slopes, pairs);
        }

        // Corrected clocks can make a slope so steep that its product with a place leaves the ints.
        private int riseTo(int place) {
            return (int) ((long) slope * place / 100);
        }

        private int middleBase() {
            for (int i = 0; i < seen; i++) {
                work[i] = readings[i] - riseTo(places[i]);
            }
            return middle(work, seen);
        }

        private void findOdd() {
            int most = -1;
            for (int i = 0; i < seen; i++) {
                left[i] = readings[i] - riseTo(places[i]) - base;
                int size = Math.abs(left[i]);
                if (size > most || size == most && numbers[i] < odd) {
                    most = size;
                    odd = numbers[i];
                    leftOfOdd = left[i];
                }
            }
        }

        int tell(int what) {
            switch (what) {
                case 0:
                    return seen;
                case 1:
                    return slope;
                case 2:
                    return base;
                case 3:
                    return odd;
                case 4:
                    return leftOfOdd;
                case 5:
                    return Math.max(longestRun(1), longestRun(-1));
                default:
                    return fallingPairs();
            }
        }

        /** The most stations whose readings never fall (sign 1), or never rise (sign -1). */
        private int longestRun(int sign) {
            int longest = 0;
            for (int b = 0; b < seen; b++) {
                work[b] = 1;
                for (int a = 0; a < b; a++) {
                    if (sign * readings[a] <= sign * readings[b] && work[a] >= work[b]) {
                        work[b] = work[a] + 1;
                    }
                }
                longest = Math.max(longest, work[b]);
            }
            return longest;
        }

        private int fallingPairs() {
            int falling = 0;
            for (int b = 1; b < seen; b++) {
                for (int a = 0; a < b; a++) {
                    if (readings[b] < readings[a]) {
                        falling++;
                    }
                }
            }
            return falling;
        }

        int guessAt(int place) {
            return seen < 2 ? UNKNOWN : base + riseTo(place);
        }

        /** The station ahead of which there are as many others as the index tells. */
        int stationInOrder(int index) {
            for (int i = 0; i < seen; i++) {
                if (stationsAheadOf(i) == index) {
                    return numbers[i];
                }
            }
            return NO_STATION;
        }

        private int stationsAheadOf(int i) {
            int ahead = 0;
            for (int j = 0; j < seen; j++) {
                boolean sooner = readings[j] < readings[i];
                if (sooner || readings[j] == readings[i] && numbers[j] < numbers[i]) {
                    ahead++;
                }
            }
            return ahead;
        }

        double meanLeft() {
            if (seen < 2) {
                return 0;
            }
            long sum = 0;
            for (int i = 0; i < seen; i++) {
                sum += Math.abs(left[i]);
            }
            return (double) sum / seen;
        }
    }
}
