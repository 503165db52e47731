import java.util.Arrays;

/** The sentences of 'Terms' that name an edge, one function each, with answers worked out by hand. */
public final class TermsEdgeTest {
    private static final Class<IllegalArgumentException> ARGUMENT = IllegalArgumentException.class;
    private static final Class<IllegalStateException> STATE = IllegalStateException.class;
    private static final int UNSEEN = -1000000;

    private TermsEdgeTest() {
    }

    public static void main(String[] args) {
        atMostTwelveStations();
        noTwoAtTheSamePlace();
        correctionIsZeroAtFirst();
        clocksAreCutTowardsZero();
        atMostFourCloudsAStation();
        cloudsEndIsNotOfIt();
        cloudsOfAllTimes();
        atMostSixteenHalos();
        timesAreRoundedUp();
        directions();
        cloudCountsWhenTheEdgeComes();
        readingsAreByTheCorrectionNow();
        slopesAreCutTowardsZero();
        slopesAreByPlace();
        middleOfSlopes();
        middleOfSixtySixSlopes();
        middleOfBases();
        basesAreCutTowardsZero();
        oddOfSeveral();
        steadyOfFewAndMany();
        steadyNeverFallOrNeverRise();
        reckoningDoesNotWrapAround();
        fiveHundredTwelveCalls();
        Check.report();
    }

    private static void atMostTwelveStations() {
        SundogLine line = new SundogLine();
        for (int s = 0; s < 12; s++) {
            Check.same("number of station " + s, line.build(999 - s, s, -s), s);
            Check.same("stations behind that", line.count(0), s + 1);
        }
        Check.refuses(line, STATE, "a thirteenth", () -> line.build(0, 0, 0));
        Check.refuses(line, STATE, "a thirteenth again", () -> line.build(0, 0, 0));
        for (int s = 0; s < 12; s++) {
            Check.same("numbered as they were built, not as they stand", line.station(s, 0), 999 - s);
        }
        Twins.refuse(STATE, "a thirteenth on a full line", Lines::full, l -> l.build(500, 0, 0));
    }

    private static void noTwoAtTheSamePlace() {
        int[] places = {500, 0, 999};
        for (int place : places) {
            Twins.refuse(STATE, "a second one at " + place, () -> Lines.at(places), l -> l.build(place, 1, 1));
        }
        SundogLine line = Lines.at(places);
        Check.refuses(line, STATE, "a second one at 500", () -> line.build(500, 0, 0));
        Check.same("a kilometre before it, with the next number", line.build(499, 0, 0), 3);
        Check.same("a kilometre behind it", line.build(501, 0, 0), 4);
        Check.same("beside the first place", line.build(1, 0, 0), 5);
        Check.same("beside the last place", line.build(998, 0, 0), 6);
        Check.same("another line has its own places", new SundogLine().build(500, 0, 0), 0);
        SundogLine halos = Lines.at(500);
        Check.same("halos may begin where a station is", halos.addHalo(0, 500, 1, 0), 0);
        Check.same("and several at one place", halos.addHalo(0, 500, 1, 0), 1);
    }

    private static void correctionIsZeroAtFirst() {
        SundogLine line = new SundogLine();
        line.build(3, 600, 99);
        Check.same("correction at first", line.station(0, 3), 0);
        line.correct(0, 70);
        line.build(4, 600, 99);
        Check.same("that of one built later too", line.station(1, 3), 0);
        Check.same("its clock", line.clock(1, 0), 600);
    }

    private static void clocksAreCutTowardsZero() {
        // Offset, drift, correction, time, reading.
        int[][] clocks = {
            {0, 1, 0, 999, 999}, {0, 1, 0, 1000, 1001}, {0, 1, 0, 1999, 2000}, {0, 1, 0, 2000, 2002},
            {0, -1, 0, 999, 999}, {0, -1, 0, 1000, 999}, {0, -1, 0, 1999, 1998}, {0, -1, 0, 2000, 1998},
            {0, 99, 0, 10, 10}, {0, 99, 0, 11, 12}, {0, -99, 0, 10, 10}, {0, -99, 0, 11, 10},
            // Only the drift is divided: with the offset or the correction it would be cut elsewhere.
            {-7, 1, 0, 500, 493}, {7, -1, 0, 500, 507}, {0, -1, 3, 500, 497}, {-600, 1, 0, 500, -100},
            {600, 99, -100000, 1000000, 1199600}, {-600, -99, 100000, 1000000, 800400},
            {-600, -99, 100000, 0, -100600}, {600, 99, -100000, 0, 100600}, {0, 0, 0, 0, 0},
        };
        for (int[] c : clocks) {
            SundogLine line = new SundogLine();
            line.build(0, c[0], c[1]);
            line.correct(0, c[2]);
            Check.same("clock of " + Arrays.toString(c), line.clock(0, c[3]), c[4]);
        }
    }

    private static void atMostFourCloudsAStation() {
        SundogLine line = Lines.at(0, 1, 2, 3, 4, 5, 6, 7, 8, 9, 10, 11);
        for (int s = 11; s >= 0; s--) {
            int station = s;
            for (int c = 1; c <= 4; c++) {
                Check.same("cloud " + c + " over " + s, line.cloud(s, c, c + 1), c);
            }
            Check.refuses(line, STATE, "a fifth over " + s, () -> line.cloud(station, 0, 1));
            Check.same("clouds over it", line.station(s, 4), 4);
        }
        Check.same("clouds of all", line.count(4), 48);
        Check.same("taken away", line.clear(6), 4);
        for (int c = 1; c <= 4; c++) {
            Check.same("cloud " + c + " behind clear", line.cloud(6, 7, 8), c);
        }
        Check.refuses(line, STATE, "a fifth behind clear", () -> line.cloud(6, 0, 1));
        Twins.refuse(STATE, "a fifth that would hide all", Lines::clouded, l -> l.cloud(0, 0, 1000000));
        Twins.refuse(STATE, "a fifth that would hide nothing", Lines::clouded, l -> l.cloud(0, 50, 51));
    }

    private static void cloudsEndIsNotOfIt() {
        SundogLine line = Lines.clouded();
        for (int h = 0; h < 16; h += 4) {
            int from = 100 + 25 * h;
            Check.same("a second before " + from, line.reading(h, 0), from - 1);
            Check.same("at " + from, line.reading(h + 1, 0), UNSEEN);
            Check.same("the last second of " + from, line.reading(h + 2, 0), UNSEEN);
            Check.same("at the end of " + from, line.reading(h + 3, 0), from + 10);
        }
        // A cloud that ends where another one begins leaves no second between them.
        SundogLine touching = Lines.at(500);
        touching.addHalo(109, 500, 1, 0);
        touching.addHalo(110, 500, 1, 0);
        touching.addHalo(111, 500, 1, 0);
        touching.cloud(0, 110, 111);
        Check.same("a second long: before", touching.reading(0, 0), 109);
        Check.same("a second long: in it", touching.reading(1, 0), UNSEEN);
        Check.same("a second long: behind", touching.reading(2, 0), 111);
        touching.cloud(0, 100, 110);
        Check.same("both: the last second of the first", touching.reading(0, 0), UNSEEN);
        Check.same("both: behind", touching.reading(2, 0), 111);
    }

    /** The first second of all, and the last one at which an edge can come. */
    private static void cloudsOfAllTimes() {
        SundogLine line = Lines.at(999);
        line.addHalo(0, 999, 1, 0);
        line.addHalo(100000, 0, 1, 1);
        Check.same("the first second", line.comes(0, 0), 0);
        Check.same("the last second", line.comes(1, 0), 199900);
        line.cloud(0, 1, 199900);
        Check.same("between them: the first", line.reading(0, 0), 0);
        Check.same("between them: the last", line.reading(1, 0), 199900);
        line.cloud(0, 0, 1);
        Check.same("only the first second", line.reading(0, 0), UNSEEN);
        Check.same("the last is free", line.reading(1, 0), 199900);
        line.cloud(0, 199901, Integer.MAX_VALUE);
        Check.same("behind the last", line.reading(1, 0), 199900);
        line.cloud(0, 199900, 199901);
        Check.same("only the last second", line.reading(1, 0), UNSEEN);
        line.clear(0);
        Check.same("the longest cloud", line.cloud(0, 0, Integer.MAX_VALUE), 1);
        Check.same("hides both", line.station(0, 5), 0);
        Check.same("the latest cloud", line.cloud(0, Integer.MAX_VALUE - 1, Integer.MAX_VALUE), 2);
    }

    private static void atMostSixteenHalos() {
        SundogLine line = new SundogLine();
        for (int h = 0; h < 16; h++) {
            Check.same("number of halo " + h, line.addHalo(100 - h, 0, 1, 0), h);
            Check.same("halos behind that", line.count(1), h + 1);
        }
        Check.refuses(line, STATE, "a seventeenth", () -> line.addHalo(0, 0, 1, 0));
        Check.refuses(line, STATE, "a seventeenth again", () -> line.addHalo(0, 0, 1, 0));
        line.build(0, 0, 0);
        for (int h = 0; h < 16; h++) {
            Check.same("numbered as they were told", line.comes(h, 0), 100 - h);
        }
        Twins.refuse(STATE, "a seventeenth on a full line", Lines::full, l -> l.addHalo(5, 5, 5, 1));
    }

    private static void timesAreRoundedUp() {
        // Speed, distance, seconds.
        int[][] ways = {
            {1, 1, 100}, {1, 999, 99900}, {2, 1, 50}, {3, 1, 34}, {3, 2, 67}, {3, 3, 100}, {3, 999, 33300},
            {7, 1, 15}, {7, 7, 100}, {7, 8, 115}, {50, 1, 2}, {51, 1, 2}, {98, 49, 50}, {98, 50, 52},
            {99, 1, 2}, {99, 98, 99}, {99, 99, 100}, {99, 100, 102}, {99, 999, 1010},
            {1, 0, 0}, {50, 0, 0}, {99, 0, 0},
        };
        for (int[] w : ways) {
            for (int begin = 0; begin <= 100000; begin += 100000) {
                SundogLine line = Lines.at(w[1]);
                line.addHalo(begin, 0, w[0], 1);
                Check.same("up the line " + Arrays.toString(w), line.comes(0, 0), begin + w[2]);
                SundogLine down = Lines.at(999 - w[1]);
                down.addHalo(begin, 999, w[0], -1);
                Check.same("down the line " + Arrays.toString(w), down.comes(0, 0), begin + w[2]);
                Check.same("the reading then", down.reading(0, 0), begin + w[2]);
            }
        }
    }

    private static void directions() {
        SundogLine line = Lines.at(0, 499, 500, 501, 999);
        line.addHalo(7, 500, 50, -1);
        line.addHalo(7, 500, 50, 0);
        line.addHalo(7, 500, 50, 1);
        line.addHalo(7, 0, 50, -1);
        line.addHalo(7, 999, 50, 1);
        line.addHalo(7, 0, 50, 1);
        line.addHalo(7, 999, 50, -1);
        int[][] due = {
            {1007, 9, 7, -1, -1}, {1007, 9, 7, 9, 1005}, {-1, -1, 7, 9, 1005},
            {7, -1, -1, -1, -1}, {-1, -1, -1, -1, 7},
            {7, 1005, 1007, 1009, 2005}, {2005, 1007, 1005, 1003, 7},
        };
        for (int h = 0; h < due.length; h++) {
            int seen = 0;
            for (int s = 0; s < 5; s++) {
                Check.same("comes(" + h + ", " + s + ")", line.comes(h, s), due[h][s]);
                Check.same("reading(" + h + ", " + s + ")", line.reading(h, s), due[h][s] < 0 ? UNSEEN : due[h][s]);
                seen += due[h][s] < 0 ? 0 : 1;
            }
            Check.same("stations that see " + h, line.halo(h, 0), seen);
        }
    }

    private static void cloudCountsWhenTheEdgeComes() {
        SundogLine line = Lines.at(0, 100);
        line.addHalo(1000, 0, 10, 0);
        line.cloud(1, 1000, 2000);
        Check.same("clouded at the beginning alone", line.reading(0, 1), 2000);
        line.cloud(0, 2000, 2001);
        Check.same("clouded when it is elsewhere", line.reading(0, 0), 1000);
        line.cloud(1, 2000, 2001);
        Check.same("clouded when it comes", line.reading(0, 1), UNSEEN);
        Check.same("it comes in spite of that", line.comes(0, 1), 2000);
        // The cloud is there at a true time, whatever the clock reads.
        SundogLine wrong = new SundogLine();
        wrong.build(0, 600, 0);
        wrong.addHalo(1000, 0, 10, 0);
        wrong.cloud(0, 1600, 1601);
        Check.same("a cloud at what the clock reads", wrong.reading(0, 0), 1600);
        wrong.cloud(0, 1000, 1001);
        Check.same("a cloud at the true time", wrong.reading(0, 0), UNSEEN);
    }

    private static void readingsAreByTheCorrectionNow() {
        SundogLine line = Lines.at(0, 100);
        line.addHalo(1000, 0, 10, 0);
        line.correct(1, 100000);
        Check.same("corrected behind the halo", line.reading(0, 1), -98000);
        line.correct(1, -100000);
        Check.same("and again", line.reading(0, 1), 102000);
        Check.same("the slope too", line.halo(0, 1), 101000);
        line.align(0, 0);
        Check.same("and by align", line.reading(0, 1), 2000);
        SundogLine least = Lines.at(0);
        least.addHalo(0, 0, 1, 0);
        least.correct(0, 100000);
        Check.same("a reading below 0", least.reading(0, 0), -100000);
        Check.same("is one that is seen", least.halo(0, 0), 1);
    }

    /** A pair of stations: way, what the greater one reads more, slope. */
    private static void slopesAreCutTowardsZero() {
        int[][] pairs = {
            {3, 1, 33}, {3, -1, -33}, {3, 2, 66}, {3, -2, -66}, {7, 2, 28}, {7, -2, -28}, {1, 5, 500}, {1, -5, -500},
            {99, 1, 1}, {99, -1, -1}, {100, 1, 1}, {100, -1, -1}, {101, 1, 0}, {101, -1, 0}, {999, 9, 0},
            {999, -9, 0}, {999, 10, 1}, {999, -10, -1}, {200, 3, 1}, {200, -3, -1}, {500, 0, 0},
        };
        for (int[] p : pairs) {
            SundogLine up = Lines.reading(new int[] {0, p[0]}, new int[] {50, 50 + p[1]});
            Check.same("slope of " + Arrays.toString(p), up.halo(0, 1), p[2]);
            SundogLine turned = Lines.reading(new int[] {p[0], 0}, new int[] {50 + p[1], 50});
            Check.same("slope built the other way round " + Arrays.toString(p), turned.halo(0, 1), p[2]);
        }
    }

    private static void slopesAreByPlace() {
        // The halo runs down the line: the greater place reads less.
        SundogLine line = Lines.at(100, 300);
        line.addHalo(0, 300, 50, -1);
        Check.same("slope of a halo that runs down", line.halo(0, 1), -200);
        Check.same("its base", line.halo(0, 2), 600);
        Check.same("its pairs", line.halo(0, 6), 1);
        Check.same("its order", line.order(0, 0), 1);
        // A place is counted from 0, not from where the halo begins.
        Check.same("guess is by the place", line.guess(0, 0), 400);
    }

    private static void middleOfSlopes() {
        int[] places = {0, 100, 200, 300, 400};
        // One slope; three, 10 50 90; six, 0 0 20 30 30 60, and 0 0 0 20 30 60.
        expectLine("middle of one", Arrays.copyOf(places, 2), new int[] {0, 70}, 70, 0);
        expectLine("middle of three", Arrays.copyOf(places, 3), new int[] {0, 10, 100}, 50, 0);
        expectLine("middle of six", Arrays.copyOf(places, 4), new int[] {0, 0, 60, 60}, 20, 0);
        expectLine("middle of six, on the edge", Arrays.copyOf(places, 4), new int[] {0, 60, 60, 60}, 0, 60);
        // Slopes 10 15 20 20 25 27 30 33 40 50, bases -20 -15 -15 0 10.
        expectLine("middle of ten", places, new int[] {0, 10, 30, 60, 110}, 25, -15);
        // The same turned: -50 -40 -33 -30 -27 -25 -20 -20 -15 -10, bases -2 0 17 21 24.
        expectLine("middle of ten below 0", places, new int[] {0, -10, -30, -60, -110}, -27, 17);
    }

    /**
     * Twelve stations that read 0 (L) or 1000 (H): of the 66 slopes 31 are 0, and how many are below 0 is by their
     * order. The one with the number 32 is the last 0, or the one beside it: that from end to end, 100000 / 913.
     */
    private static void middleOfSixtySixSlopes() {
        Check.same("1 is below 0", levels("LLLLLLHLHHHH").halo(0, 1), 109);
        Check.same("2 are below 0", levels("LLLLLHLLHHHH").halo(0, 1), 0);
        Check.same("33 are below 0", levels("HHHHLLHLLLLL").halo(0, 1), -109);
        Check.same("32 are below 0", levels("HHHHLLLHLLLL").halo(0, 1), 0);
    }

    private static SundogLine levels(String order) {
        int[] places = new int[12];
        int[] readings = new int[12];
        for (int i = 0; i < 12; i++) {
            places[i] = 83 * i;
            readings[i] = order.charAt(i) == 'H' ? 1000 : 0;
        }
        return Lines.reading(places, readings);
    }

    private static void expectLine(String name, int[] places, int[] readings, int slope, int base) {
        SundogLine line = Lines.reading(places, readings);
        Check.same(name + ": slope", line.halo(0, 1), slope);
        Check.same(name + ": base", line.halo(0, 2), base);
    }

    /**
     * Readings of 0 at the lesser places and of 1 at the others, so that the slope is 0 (but for two stations) and the
     * bases are the readings: with one 0 more the middle one is another.
     */
    private static void middleOfBases() {
        for (int n = 2; n <= 12; n++) {
            int zeros = (n - 1) / 2;
            Check.same("middle of " + n + " bases, " + zeros + " of them 0", steps(n, zeros).halo(0, 2), 1);
            Check.same("middle of " + n + " bases, one more of them 0", steps(n, zeros + 1).halo(0, 2), 0);
        }
        SundogLine twelve = steps(12, 6);
        Check.same("the first of those that are 1", twelve.halo(0, 3), 6);
        Check.same("is odd by", twelve.halo(0, 4), 1);
        Check.same("mean of twelve", twelve.error(0), 0.5);
    }

    private static SundogLine steps(int length, int zeros) {
        int[] places = new int[length];
        int[] readings = new int[length];
        for (int i = 0; i < length; i++) {
            places[i] = 83 * i;
            readings[i] = i < zeros ? 0 : 1;
        }
        return Lines.reading(places, readings);
    }

    /** Slope and place are multiplied first, and cut then: 33 * 200 / 100 is 66, -33 * 50 / 100 is -16. */
    private static void basesAreCutTowardsZero() {
        SundogLine up = Lines.reading(new int[] {0, 3, 50, 200}, new int[] {10, 11, 26, 76});
        up.cloud(2, 0, 1000000);
        up.cloud(3, 0, 1000000);
        Check.same("slope up", up.halo(0, 1), 33);
        Check.same("base up", up.halo(0, 2), 10);
        Check.same("guess at 50: 16.5", up.guess(0, 2), 26);
        Check.same("guess at 200: 66", up.guess(0, 3), 76);
        Check.same("what is left of 1", up.halo(0, 4), 1);
        SundogLine down = Lines.reading(new int[] {0, 3, 50, 200}, new int[] {10, 9, 0, 0});
        down.cloud(2, 0, 1000000);
        down.cloud(3, 0, 1000000);
        Check.same("slope down", down.halo(0, 1), -33);
        Check.same("base down", down.halo(0, 2), 9);
        Check.same("guess at 50: -16.5", down.guess(0, 2), 9 - 16);
        Check.same("guess at 200: -66", down.guess(0, 3), 9 - 66);
        Check.same("guess at 3: -0.99", down.guess(0, 1), 9);
    }

    private static void oddOfSeveral() {
        int[] places = {0, 100, 200, 300, 400};
        // Slope 0 and base 50 each: what is left is told behind them.
        expectOdd("5 and -5", places, new int[] {50, 55, 45, 50, 50}, 1, 5);
        expectOdd("-5 and 5", places, new int[] {50, 45, 55, 50, 50}, 1, -5);
        expectOdd("5 and -6", places, new int[] {50, 55, 44, 50, 50}, 2, -6);
        expectOdd("6 and -5", places, new int[] {50, 56, 45, 50, 50}, 1, 6);
        expectOdd("none is off", places, new int[] {50, 50, 50, 50, 50}, 0, 0);
        expectOdd("built from the other end", new int[] {400, 300, 200, 100, 0}, new int[] {50, 50, 45, 55, 50}, 2, -5);
        SundogLine line = Lines.reading(places, new int[] {50, 55, 45, 50, 50});
        line.cloud(1, 0, 1000000);
        Check.same("who does not see it is not odd", line.halo(0, 3), 2);
        line.cloud(2, 0, 1000000);
        Check.same("nor is it now", line.halo(0, 3), 0);
        line.cloud(0, 0, 1000000);
        Check.same("the first of two that see it", line.halo(0, 3), 3);
        line.cloud(3, 0, 1000000);
        Check.same("one sees it", line.halo(0, 3), UNSEEN);
    }

    private static void expectOdd(String name, int[] places, int[] readings, int odd, int left) {
        SundogLine line = Lines.reading(places, readings);
        Check.same(name + ": slope", line.halo(0, 1), 0);
        Check.same(name + ": base", line.halo(0, 2), 50);
        Check.same(name + ": odd", line.halo(0, 3), odd);
        Check.same(name + ": left", line.halo(0, 4), left);
    }

    private static void steadyOfFewAndMany() {
        SundogLine line = Lines.reading(new int[] {0, 100, 200}, new int[] {5, 5, 4});
        Check.same("three of three never rise", line.halo(0, 5), 3);
        line.cloud(2, 0, 1000000);
        Check.same("two of two, the same", line.halo(0, 5), 2);
        line.cloud(1, 0, 1000000);
        Check.same("one of one", line.halo(0, 5), 1);
        line.cloud(0, 0, 1000000);
        Check.same("none of none", line.halo(0, 5), 0);
        Check.same("no pairs", line.halo(0, 6), 0);
        expectSteady("two that rise", new int[] {0, 9}, 2, 0);
        expectSteady("two that fall", new int[] {9, 0}, 2, 1);
        expectSteady("twelve that rise", new int[] {0, 1, 2, 3, 4, 5, 6, 7, 8, 9, 10, 11}, 12, 0);
        expectSteady("twelve that fall", new int[] {11, 10, 9, 8, 7, 6, 5, 4, 3, 2, 1, 0}, 12, 66);
        expectSteady("twelve, the same", new int[12], 12, 0);
    }

    private static void steadyNeverFallOrNeverRise() {
        expectSteady("the same one does not end it", new int[] {1, 2, 2, 3, 0, 3}, 5, 4);
        expectSteady("nor when they fall", new int[] {3, 2, 2, 1, 9, 1}, 5, 9);
        expectSteady("more that fall", new int[] {5, 4, 6, 3, 7, 2}, 4, 9);
        expectSteady("more that rise", new int[] {2, 7, 3, 6, 4, 5}, 4, 6);
        expectSteady("up and down again", new int[] {1, 3, 5, 4, 2, 0}, 4, 9);
        expectSteady("without the first", new int[] {9, 1, 2, 3}, 3, 3);
        expectSteady("without the last", new int[] {1, 2, 3, 0}, 3, 3);
        expectSteady("below 0", new int[] {-3, -2, -2, 0}, 4, 0);
    }

    private static void expectSteady(String name, int[] readings, int steady, int falling) {
        int[] places = new int[readings.length];
        for (int i = 0; i < places.length; i++) {
            places[i] = 90 * i;
        }
        SundogLine line = Lines.reading(places, readings);
        Check.same(name + ": steady", line.halo(0, 5), steady);
        Check.same(name + ": pairs", line.halo(0, 6), falling);
    }

    /** The steepest slope that clocks can make; times its place it is more than an int holds. */
    private static void reckoningDoesNotWrapAround() {
        SundogLine line = new SundogLine();
        line.build(998, -600, -99);
        line.build(999, 600, 99);
        line.build(0, 0, 0);
        line.correct(0, 100000);
        line.correct(1, -100000);
        line.cloud(2, 0, 1000000);
        line.addHalo(100000, 0, 1, 1);
        Check.same("the least reading there", line.reading(0, 0), 199800 - 600 - 19780 - 100000);
        Check.same("the greatest reading of all", line.reading(0, 1), 199900 + 600 + 19790 + 100000);
        Check.same("slope", line.halo(0, 1), 24087000);
        Check.same("base", line.halo(0, 2), 79420 - 240388260);
        Check.same("odd", line.halo(0, 3), 0);
        Check.same("left", line.halo(0, 4), 0);
        Check.same("guess at 0", line.guess(0, 2), 79420 - 240388260);
        Check.same("guess at 999", line.guess(0, 1), 320290);
        Check.same("error", line.error(0), 0.0);
    }

    /** The last call for which something is promised answers like the first. */
    private static void fiveHundredTwelveCalls() {
        SundogLine line = new SundogLine();
        line.build(100, 0, 0);
        line.addHalo(0, 100, 1, 0);
        for (int call = 3; call <= 510; call++) {
            line.cloud(0, 0, 5);
            call++;
            line.clear(0);
        }
        Check.same("call 511", line.cloud(0, 1, 5), 1);
        Check.same("call 512", line.reading(0, 0), 0);
    }
}
