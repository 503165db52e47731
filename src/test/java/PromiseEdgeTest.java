import java.math.BigInteger;

/** The edges that each promise names: the last number that is allowed, the first that is not, and what is refused. */
public final class PromiseEdgeTest {
    private static final Class<IllegalArgumentException> ARGUMENT = IllegalArgumentException.class;
    private static final Class<IllegalStateException> STATE = IllegalStateException.class;
    private static final Class<IndexOutOfBoundsException> INDEX = IndexOutOfBoundsException.class;
    private static final int LEAST = Integer.MIN_VALUE;
    private static final int GREATEST = Integer.MAX_VALUE;
    private static final int UNSEEN = -1000000;
    // No station and no halo of a full line has one of these numbers.
    private static final int[] NO_STATIONS = {LEAST, -1, 12, 13, GREATEST};
    private static final int[] NO_HALOS = {LEAST, -1, 16, 17, GREATEST};
    private static final int[] NO_TIMES = {LEAST, -1, 1000001, GREATEST};

    private PromiseEdgeTest() {
    }

    public static void main(String[] args) {
        promise1EmptyLine();
        promise2Build();
        promise3Cloud();
        promise4Clear();
        promise5Correct();
        promise6Station();
        promise7Clock();
        promise8AddHalo();
        promise9And10Comes();
        promise11Order();
        promise12Halo();
        promise13Guess();
        promise14Blame();
        promise15Advise();
        promise15AdviseMiddle();
        promise16Wire();
        promise17Align();
        promise17AlignTwelve();
        promise18Spread();
        promise19Count();
        promise20Error();
        promise21Digest();
        Check.report();
    }

    /** Where there is nothing yet, all that asks for a station or a halo is refused, whatever else is asked. */
    private static void promise1EmptyLine() {
        for (int none : new int[] {LEAST, -1, 0, 1, GREATEST}) {
            String name = "1 nothing numbered " + none + ": ";
            Twins.refuse(INDEX, name + "cloud", SundogLine::new, l -> l.cloud(none, -1, -1));
            Twins.refuse(INDEX, name + "clear", SundogLine::new, l -> l.clear(none));
            Twins.refuse(INDEX, name + "correct", SundogLine::new, l -> l.correct(none, GREATEST));
            Twins.refuse(INDEX, name + "station", SundogLine::new, l -> l.station(none, 0));
            Twins.refuse(INDEX, name + "clock", SundogLine::new, l -> l.clock(none, -1));
            Twins.refuse(INDEX, name + "comes", SundogLine::new, l -> l.comes(none, none));
            Twins.refuse(INDEX, name + "reading", SundogLine::new, l -> l.reading(none, none));
            Twins.refuse(INDEX, name + "order", SundogLine::new, l -> l.order(none, 0));
            Twins.refuse(INDEX, name + "halo", SundogLine::new, l -> l.halo(none, 0));
            Twins.refuse(INDEX, name + "guess", SundogLine::new, l -> l.guess(none, none));
            Twins.refuse(INDEX, name + "blame", SundogLine::new, l -> l.blame(none));
            Twins.refuse(INDEX, name + "advise", SundogLine::new, l -> l.advise(none));
            Twins.refuse(INDEX, name + "wire", SundogLine::new, l -> l.wire(none, none, -1));
            Twins.refuse(INDEX, name + "align", SundogLine::new, l -> l.align(none, -1));
            Twins.refuse(INDEX, name + "error", SundogLine::new, l -> (int) l.error(none));
        }
        Check.same("1 digest", new SundogLine().digest(), 521L * 31 * 31 * 31 * 31 * 31);
        Check.same("1 spread", new SundogLine().spread(1000000), 0);
    }

    private static void promise2Build() {
        int[][] allowed = {{0, 0, 0}, {999, 0, 0}, {500, -600, 0}, {500, 600, 0}, {500, 0, -99}, {500, 0, 99}};
        for (int[] a : allowed) {
            SundogLine line = new SundogLine();
            String name = "2 build(" + a[0] + ", " + a[1] + ", " + a[2] + ")";
            Check.same(name, line.build(a[0], a[1], a[2]), 0);
            for (int what = 0; what < 3; what++) {
                Check.same(name + " is told by station(0, " + what + ")", line.station(0, what), a[what]);
            }
        }
        int[][] refused = {
            {-1, 0, 0}, {1000, 0, 0}, {LEAST, 0, 0}, {GREATEST, 0, 0},
            {500, -601, 0}, {500, 601, 0}, {500, LEAST, 0}, {500, GREATEST, 0},
            {500, 0, -100}, {500, 0, 100}, {500, 0, LEAST}, {500, 0, GREATEST},
        };
        for (int[] r : refused) {
            String name = "2 build(" + r[0] + ", " + r[1] + ", " + r[2] + ")";
            Twins.refuse(ARGUMENT, name, SundogLine::new, l -> l.build(r[0], r[1], r[2]));
            Twins.refuse(ARGUMENT, name + " ahead of the place taken", () -> Lines.at(500),
                    l -> l.build(r[0], r[1], r[2]));
            Twins.refuse(ARGUMENT, name + " ahead of twelve", Lines::full, l -> l.build(r[0], r[1], r[2]));
        }
        Twins.refuse(STATE, "2 there is one, and there are twelve", Lines::full, l -> l.build(980, 0, 0));
        SundogLine line = Lines.at(500);
        Check.refuses(line, STATE, "2 place taken", () -> line.build(500, 0, 0));
        Check.same("2 what is refused takes no number", line.build(501, 0, 0), 1);
    }

    private static void promise3Cloud() {
        int[][] refused = {{-1, 5}, {LEAST, 5}, {5, 5}, {5, 4}, {0, 0}, {0, -1}, {5, LEAST}, {-2, -1}, {-1, -1},
            {GREATEST, GREATEST}, {GREATEST, LEAST}};
        for (int[] r : refused) {
            String name = "3 cloud(0, " + r[0] + ", " + r[1] + ")";
            Twins.refuse(ARGUMENT, name, () -> Lines.at(500), l -> l.cloud(0, r[0], r[1]));
            Twins.refuse(ARGUMENT, name + " ahead of four", Lines::clouded, l -> l.cloud(0, r[0], r[1]));
        }
        for (int none : NO_STATIONS) {
            Twins.refuse(INDEX, "3 no station " + none, Lines::full, l -> l.cloud(none, 0, 1));
            Twins.refuse(INDEX, "3 no station " + none + " ahead of from", Lines::full, l -> l.cloud(none, -1, 1));
            Twins.refuse(INDEX, "3 no station " + none + " ahead of to", Lines::full, l -> l.cloud(none, 1, 1));
        }
        int[][] allowed = {{0, 1}, {0, GREATEST}, {GREATEST - 1, GREATEST}, {5, 6}};
        SundogLine line = Lines.at(1, 2);
        for (int i = 0; i < 4; i++) {
            Check.same("3 clouds that were told", line.cloud(1, allowed[i][0], allowed[i][1]), i + 1);
        }
        Twins.refuse(STATE, "3 there are four", Lines::full, l -> l.cloud(11, 0, 1));
        Check.same("3 the other one has none", line.station(0, 4), 0);
    }

    private static void promise4Clear() {
        for (int none : NO_STATIONS) {
            Twins.refuse(INDEX, "4 no station " + none, Lines::full, l -> l.clear(none));
        }
        Twins.refuse(INDEX, "4 no station 1 yet", () -> Lines.at(3), l -> l.clear(1));
        SundogLine line = Lines.full();
        Check.same("4 the first of twelve", line.clear(0), 4);
        Check.same("4 the last of twelve", line.clear(11), 4);
        Check.same("4 none there now", line.clear(11), 0);
        Check.same("4 the others keep theirs", line.count(4), 40);
        SundogLine clouded = Lines.clouded();
        Check.same("4 sees half of sixteen", clouded.station(0, 5), 8);
        Check.same("4 all four", clouded.clear(0), 4);
        Check.same("4 sees all", clouded.station(0, 5), 16);
        clouded.cloud(0, 0, 1);
        Check.same("4 one of old and new", clouded.station(0, 4), 1);
        Check.same("4 the old ones stay away", clouded.station(0, 5), 16);
    }

    private static void promise5Correct() {
        for (int wrong : new int[] {LEAST, -100001, 100001, GREATEST}) {
            Twins.refuse(ARGUMENT, "5 correction " + wrong, Lines::full, l -> l.correct(11, wrong));
            Twins.refuse(INDEX, "5 no station 1, correction " + wrong, () -> Lines.at(3), l -> l.correct(1, wrong));
        }
        for (int none : NO_STATIONS) {
            Twins.refuse(INDEX, "5 no station " + none, Lines::full, l -> l.correct(none, 0));
        }
        SundogLine line = Lines.at(3, 4);
        int[] allowed = {-100000, 100000, -99999, 99999, 0};
        int before = 0;
        for (int correction : allowed) {
            Check.same("5 the one before " + correction, line.correct(1, correction), before);
            Check.same("5 the one now", line.station(1, 3), correction);
            Check.same("5 what the clock reads", line.clock(1, 0), -correction);
            before = correction;
        }
        Check.same("5 the other one's stays", line.station(0, 3), 0);
    }

    private static void promise6Station() {
        for (int what : new int[] {LEAST, -1, 6, 7, GREATEST}) {
            Twins.refuse(INDEX, "6 what " + what, Lines::full, l -> l.station(11, what));
        }
        for (int none : NO_STATIONS) {
            Twins.refuse(INDEX, "6 no station " + none, Lines::full, l -> l.station(none, 5));
        }
        int[] first = {980, 0, 99, 0, 4};
        int[] last = {45, -550, -22, 0, 4};
        SundogLine line = Lines.full();
        for (int what = 0; what < 5; what++) {
            Check.same("6 station(0, " + what + ") of a full line", line.station(0, what), first[what]);
            Check.same("6 station(11, " + what + ") of a full line", line.station(11, what), last[what]);
        }
        Check.same("6 no halos", Lines.at(5).station(0, 5), 0);
        Check.same("6 half of the halos", Lines.clouded().station(0, 5), 8);
    }

    private static void promise7Clock() {
        for (int time : NO_TIMES) {
            Twins.refuse(ARGUMENT, "7 time " + time, Lines::full, l -> l.clock(11, time));
            Twins.refuse(INDEX, "7 no station 12 ahead of time " + time, Lines::full, l -> l.clock(12, time));
        }
        for (int none : NO_STATIONS) {
            Twins.refuse(INDEX, "7 no station " + none, Lines::full, l -> l.clock(none, 0));
        }
        SundogLine line = Lines.full();
        Check.same("7 at 0", line.clock(11, 0), -550);
        Check.same("7 at 1000000", line.clock(11, 1000000), 1000000 - 550 - 22000);
    }

    private static void promise8AddHalo() {
        int[][] allowed = {{0, 0, 1, 0}, {100000, 0, 1, 0}, {5, 999, 1, 0}, {5, 5, 99, 0}, {5, 5, 5, -1}, {5, 5, 5, 1}};
        for (int[] a : allowed) {
            SundogLine line = Lines.at(a[1]);
            String name = "8 addHalo(" + a[0] + ", " + a[1] + ", " + a[2] + ", " + a[3] + ")";
            Check.same(name, line.addHalo(a[0], a[1], a[2], a[3]), 0);
            Check.same(name + " is there", line.comes(0, 0), a[0]);
        }
        int[][] refused = {
            {-1, 5, 5, 0}, {100001, 5, 5, 0}, {LEAST, 5, 5, 0}, {GREATEST, 5, 5, 0},
            {5, -1, 5, 0}, {5, 1000, 5, 0}, {5, LEAST, 5, 0}, {5, GREATEST, 5, 0},
            {5, 5, 0, 0}, {5, 5, -1, 0}, {5, 5, 100, 0}, {5, 5, LEAST, 0}, {5, 5, GREATEST, 0},
            {5, 5, 5, -2}, {5, 5, 5, 2}, {5, 5, 5, LEAST}, {5, 5, 5, GREATEST},
        };
        for (int[] r : refused) {
            String name = "8 addHalo(" + r[0] + ", " + r[1] + ", " + r[2] + ", " + r[3] + ")";
            Twins.refuse(ARGUMENT, name, () -> Lines.at(5, 6), l -> l.addHalo(r[0], r[1], r[2], r[3]));
            Twins.refuse(ARGUMENT, name + " ahead of sixteen", Lines::full, l -> l.addHalo(r[0], r[1], r[2], r[3]));
        }
        Twins.refuse(STATE, "8 there are sixteen", Lines::clouded, l -> l.addHalo(0, 0, 1, 0));
        SundogLine line = new SundogLine();
        Check.refuses(line, ARGUMENT, "8 speed 0", () -> line.addHalo(0, 0, 0, 0));
        Check.same("8 what is refused takes no number", line.addHalo(0, 0, 1, 0), 0);
    }

    private static void promise9And10Comes() {
        for (int none : NO_HALOS) {
            Twins.refuse(INDEX, "9 no halo " + none, Lines::full, l -> l.comes(none, 0));
            Twins.refuse(INDEX, "10 no halo " + none, Lines::full, l -> l.reading(none, 0));
        }
        for (int none : NO_STATIONS) {
            Twins.refuse(INDEX, "9 no station " + none, Lines::full, l -> l.comes(0, none));
            Twins.refuse(INDEX, "10 no station " + none, Lines::full, l -> l.reading(0, none));
        }
        SundogLine line = Lines.full();
        // The last halo runs from 915 down the line from 90000 on, by 95 km in 100 s; 0 and 11 are at 980 and 45.
        Check.same("9 it does not come", line.comes(15, 0), -1);
        Check.same("10 it is not seen", line.reading(15, 0), UNSEEN);
        Check.same("9 the last of both", line.comes(15, 11), 90000 + 916);
        Check.same("10 the last of both", line.reading(15, 11), 90916 + 50 * -11 - 2000);
        // More halos than stations, and the other way round: each number has its own limit.
        SundogLine wide = Lines.at(1, 2, 3);
        wide.addHalo(0, 0, 50, 0);
        Check.same("9 station 2 of 3", wide.comes(0, 2), 6);
        Check.refuses(wide, INDEX, "9 halo 2 of 1", () -> wide.comes(2, 0));
        SundogLine deep = Lines.clouded();
        Check.same("9 halo 15 of 16", deep.comes(15, 0), 410);
        Check.refuses(deep, INDEX, "9 station 15 of 1", () -> deep.comes(0, 15));
    }

    private static void promise11Order() {
        for (int index : new int[] {LEAST, -2, -1}) {
            Twins.refuse(INDEX, "11 index " + index, Lines::full, l -> l.order(15, index));
        }
        for (int none : NO_HALOS) {
            Twins.refuse(INDEX, "11 no halo " + none, Lines::full, l -> l.order(none, 0));
        }
        SundogLine line = new SundogLine();
        line.addHalo(0, 0, 50, 0);
        Check.same("11 no stations", line.order(0, 0), -1);
        line.build(100, 0, 0);
        Check.same("11 the first of one", line.order(0, 0), 0);
        Check.same("11 behind the one", line.order(0, 1), -1);
        line.build(50, 100, 0);
        Check.same("11 the same reading: by number, not place", line.order(0, 0), 0);
        Check.same("11 and the other one", line.order(0, 1), 1);
        line.correct(1, 1);
        Check.same("11 a second less", line.order(0, 0), 1);
        line.cloud(1, 0, 1000);
        Check.same("11 who does not see it has no place in it", line.order(0, 0), 0);
        Check.same("11 behind that", line.order(0, 1), -1);
        SundogLine same = Lines.reading(new int[] {99, 88, 77, 66, 55, 44, 33, 22, 11, 5, 3, 1}, new int[12]);
        for (int i = 0; i < 12; i++) {
            Check.same("11 twelve of the same reading", same.order(0, i), i);
        }
        Check.same("11 a thirteenth", same.order(0, 12), -1);
        Check.same("11 the greatest index", same.order(0, GREATEST), -1);
        SundogLine below = Lines.reading(new int[] {10, 20, 30}, new int[] {-1, -3, -2});
        Check.same("11 the least below 0", below.order(0, 0), 1);
    }

    private static void promise12Halo() {
        for (int what : new int[] {LEAST, -1, 7, 8, GREATEST}) {
            Twins.refuse(INDEX, "12 what " + what, Lines::full, l -> l.halo(15, what));
            Twins.refuse(INDEX, "12 what " + what + " where nobody sees it", Lines::dark, l -> l.halo(0, what));
        }
        for (int none : NO_HALOS) {
            Twins.refuse(INDEX, "12 no halo " + none, Lines::full, l -> l.halo(none, 0));
        }
        SundogLine line = Lines.reading(new int[] {300, 200, 100}, new int[] {90, 60, 40});
        // Slopes 20 25 30; bases 15 10 15.
        expectHalo("12 three see it", line, new int[] {3, 25, 15, 1, -5, 3, 0});
        line.cloud(1, 0, 1000000);
        expectHalo("12 two see it", line, new int[] {2, 25, 15, 0, 0, 2, 0});
        line.cloud(0, 0, 1000000);
        expectHalo("12 one sees it", line, new int[] {1, UNSEEN, UNSEEN, UNSEEN, UNSEEN, 1, 0});
        line.cloud(2, 0, 1000000);
        expectHalo("12 nobody sees it", line, new int[] {0, UNSEEN, UNSEEN, UNSEEN, UNSEEN, 0, 0});
        line.clear(0);
        line.clear(2);
        expectHalo("12 two see it again", line, new int[] {2, 25, 15, 0, 0, 2, 0});
        SundogLine pairs = Lines.reading(new int[] {1, 2, 3, 4}, new int[] {5, 5, 4, 5});
        Check.same("12 the same reading is not the lesser one", pairs.halo(0, 6), 2);
    }

    private static void expectHalo(String name, SundogLine line, int[] due) {
        for (int what = 0; what < due.length; what++) {
            Check.same(name + ": halo(0, " + what + ")", line.halo(0, what), due[what]);
        }
    }

    private static void promise13Guess() {
        for (int none : NO_HALOS) {
            Twins.refuse(INDEX, "13 no halo " + none, Lines::full, l -> l.guess(none, 0));
        }
        for (int none : NO_STATIONS) {
            Twins.refuse(INDEX, "13 no station " + none, Lines::full, l -> l.guess(0, none));
            Twins.refuse(INDEX, "13 no station " + none + ", nobody sees it", Lines::dark, l -> l.guess(0, none));
        }
        SundogLine line = Lines.reading(new int[] {100, 300, 999, 0}, new int[] {40, 90, 0, 0});
        line.cloud(2, 0, 1000000);
        line.cloud(3, 0, 1000000);
        Check.same("13 at the last place, of two", line.guess(0, 2), 15 + 249);
        Check.same("13 at the first place, of two", line.guess(0, 3), 15);
        Check.same("13 of one that sees it", line.guess(0, 0), 40);
        line.cloud(1, 0, 1000000);
        for (int s = 0; s < 4; s++) {
            Check.same("13 of one alone", line.guess(0, s), UNSEEN);
        }
        line.cloud(0, 0, 1000000);
        Check.same("13 of nobody", line.guess(0, 0), UNSEEN);
    }

    private static void promise14Blame() {
        for (int none : NO_STATIONS) {
            Twins.refuse(INDEX, "14 no station " + none, Lines::full, l -> l.blame(none));
        }
        Check.same("14 no halos", Lines.at(5).blame(0), 0);
        SundogLine line = Lines.reading(new int[] {0, 100, 200, 300}, new int[] {0, 10, 0, 0});
        Check.same("14 four see it", line.blame(1), 1);
        line.cloud(3, 0, 1000000);
        Check.same("14 three see it", line.blame(1), 1);
        line.cloud(2, 0, 1000000);
        Check.same("14 of two it is the first that is odd", line.halo(0, 3), 0);
        Check.same("14 two are too few", line.blame(0), 0);
        line.clear(2);
        Check.same("14 three again", line.blame(1), 1);
        SundogLine exact = Lines.reading(new int[] {0, 100, 200}, new int[] {0, 1, 2});
        Check.same("14 odd with nothing left", exact.blame(0), 1);
        SundogLine all = Lines.at(0, 100, 200);
        all.correct(2, 5);
        for (int h = 0; h < 16; h++) {
            all.addHalo(100 * h, 0, 50, 1);
        }
        Check.same("14 of all sixteen", all.blame(0) + all.blame(1) + all.blame(2), 16);
        Check.same("14 the odd one of all", all.blame(all.halo(0, 3)), 16);
    }

    private static void promise15Advise() {
        for (int none : NO_STATIONS) {
            Twins.refuse(INDEX, "15 no station " + none, Lines::full, l -> l.advise(none));
        }
        SundogLine line = Lines.at(0, 100, 200);
        line.correct(1, 77);
        Check.same("15 no halos", line.advise(1), 77);
        line.addHalo(0, 0, 50, 1);
        Check.same("15 three see it", line.advise(1), 0);
        Check.same("15 nothing is changed", line.station(1, 3), 77);
        line.cloud(0, 0, 1);
        Check.same("15 two see it", line.advise(1), 77);
        Check.same("15 it does not see it", line.advise(0), 0);
        line.build(300, 0, 0);
        Check.same("15 three see it, but not this one", line.advise(0), 0);
        // Readings 123 400 600; slopes 200 238 277; bases -115 -114 -76: its guess is 124.
        Check.same("15 three see it again", line.advise(1), 76);
        // What would be beyond the limit is told all the same.
        SundogLine below = Lines.at(new int[] {0, 100, 200}, new int[] {-100000, 0, -100000});
        below.addHalo(0, 0, 50, 1);
        Check.same("15 far below", below.advise(1), -100000);
        SundogLine beyond = new SundogLine();
        beyond.build(0, 0, 0);
        beyond.build(100, -600, 0);
        beyond.build(200, 0, 0);
        beyond.correct(0, -100000);
        beyond.correct(2, -100000);
        beyond.addHalo(0, 0, 50, 1);
        Check.same("15 below the least correction", beyond.advise(1), -100600);
        Check.refuses(beyond, ARGUMENT, "15 which can't be set", () -> beyond.correct(1, beyond.advise(1)));
    }

    /**
     * Station 1 drifts: of the halo that begins at 1000 * k it reads 99 * k + 10 more than its guess. Of n halos the
     * one with the number (n - 1) / 2 is the middle one, whatever their order.
     */
    private static void promise15AdviseMiddle() {
        SundogLine line = new SundogLine();
        line.build(0, 0, 0);
        line.build(100, 0, 99);
        line.build(200, 0, 0);
        for (int n = 1; n <= 16; n++) {
            line.addHalo(1000 * (16 - n), 0, 99, 1);
            int middle = 16 - n + (n - 1) / 2;
            Check.same("15 middle of " + n, line.advise(1), 99 * middle + 10);
        }
        line.correct(1, 5);
        Check.same("15 what it is now is added", line.advise(1), 99 * 7 + 10);
        // Of those that begin at 8000 to 15000 the fourth.
        line.cloud(1, 0, 8000);
        Check.same("15 of the eight that it sees", line.advise(1), 99 * 11 + 10);
        line.cloud(0, 8000, 9000);
        Check.same("15 of the seven that three see", line.advise(1), 99 * 12 + 10);
    }

    private static void promise16Wire() {
        for (int time : NO_TIMES) {
            Twins.refuse(ARGUMENT, "16 time " + time, Lines::full, l -> l.wire(0, 11, time));
            Twins.refuse(INDEX, "16 no station 12 ahead of time " + time, Lines::full, l -> l.wire(12, 0, time));
            Twins.refuse(INDEX, "16 to no station ahead of time " + time, Lines::full, l -> l.wire(0, 12, time));
        }
        for (int none : NO_STATIONS) {
            Twins.refuse(INDEX, "16 from no station " + none, Lines::full, l -> l.wire(none, 0, 0));
            Twins.refuse(INDEX, "16 to no station " + none, Lines::full, l -> l.wire(0, none, 0));
        }
        // From place 100: the seconds on the wire, both ways.
        SundogLine line = Lines.at(100, 101, 102, 103, 105, 106, 98, 97, 999, 0);
        int[] seconds = {0, 0, 0, 1, 1, 2, 0, 1, 299, 33};
        for (int s = 0; s < seconds.length; s++) {
            for (int time = 0; time <= 1000000; time += 1000000) {
                Check.same("16 from 0 to " + s + " at " + time, line.wire(0, s, time), seconds[s]);
                Check.same("16 from " + s + " to 0 at " + time, line.wire(s, 0, time), seconds[s]);
            }
        }
        Check.same("16 from end to end", line.wire(8, 9, 1000000), 333);
        // It comes at 1000333: the other clock drifts by that.
        SundogLine far = new SundogLine();
        far.build(0, 600, -99);
        far.build(999, -600, 99);
        Check.same("16 at the last time", far.wire(0, 1, 1000000), 1000333 - 600 + 99032 - (1000000 + 600 - 99000));
        Check.same("16 and back", far.wire(1, 0, 1000000), 1000333 + 600 - 99032 - (1000000 - 600 + 99000));
        Check.same("16 below 0", far.wire(0, 1, 0), 333 - 600 + 32 - 600);
        Check.same("16 to itself", far.wire(1, 1, 1000000), 0);
    }

    private static void promise17Align() {
        for (int time : NO_TIMES) {
            Twins.refuse(ARGUMENT, "17 time " + time, Lines::full, l -> l.align(11, time));
            Twins.refuse(INDEX, "17 no station 12 ahead of time " + time, Lines::full, l -> l.align(12, time));
            Twins.refuse(ARGUMENT, "17 time " + time + " ahead of the state", Lines::apart, l -> l.align(0, time));
        }
        for (int none : NO_STATIONS) {
            Twins.refuse(INDEX, "17 no station " + none, Lines::full, l -> l.align(none, 0));
            Twins.refuse(INDEX, "17 no station " + none + " ahead of the state", Lines::apart, l -> l.align(none, 0));
        }
        Check.same("17 one alone", Lines.at(7).align(0, 1000000), 0);
        SundogLine drifting = new SundogLine();
        drifting.build(0, 600, 99);
        drifting.build(1, 600, 0);
        Check.same("17 at 0 they read the same", drifting.align(0, 0), 0);
        Check.same("17 at the last time", drifting.align(0, 1000000), 1);
        Check.same("17 its correction then", drifting.station(1, 3), -99000);
        Check.same("17 what both read", drifting.clock(1, 1000000), 1099600);
        // 198000 apart: one of both is too far whichever it is set by.
        SundogLine apart = new SundogLine();
        apart.build(0, 0, 99);
        apart.build(1, 0, -99);
        Check.refuses(apart, STATE, "17 by the one ahead", () -> apart.align(0, 1000000));
        Check.refuses(apart, STATE, "17 by the one behind", () -> apart.align(1, 1000000));
        // 99 * 505060 / 1000 is 50000 on either side, and a second behind that 50001.
        Check.refuses(apart, STATE, "17 just too far apart", () -> apart.align(0, 505061));
        Check.same("17 just near enough", apart.align(0, 505060), 1);
        Check.same("17 set to that", apart.station(1, 3), -100000);
        Twins.refuse(STATE, "17 too far by the first", Lines::apart, l -> l.align(0, 0));
        Twins.refuse(STATE, "17 too far by the last", Lines::apart, l -> l.align(1, 1000000));
    }

    /** Each of twelve is looked at, on both sides, before any is set. */
    private static void promise17AlignTwelve() {
        for (int far = 0; far < 12; far++) {
            for (int sign = -1; sign <= 1; sign += 2) {
                int one = (far + 5) % 12;
                int offset = 300 * sign;
                String name = "17 station " + far + " by " + one + ", its offset " + offset;
                SundogLine line = Lines.offset(far, offset);
                line.correct(one, (100000 - 300) * sign);
                Check.same(name + ": just near enough", line.align(one, 0), 11);
                Check.same(name + ": its correction", line.station(far, 3), 100000 * sign);
                Check.same(name + ": that of the one", line.station(one, 3), (100000 - 300) * sign);
                Check.same(name + ": all read the same", line.spread(0), 0);
                Check.same(name + ": nothing is left to set", line.align(far, 0), 0);
                SundogLine over = Lines.offset(far, offset);
                over.correct(one, (100000 - 299) * sign);
                Check.refuses(over, STATE, name + ": a second too far", () -> over.align(one, 0));
                for (int s = 0; s < 12; s++) {
                    Check.same(name + ": none is set", over.station(s, 3), s == one ? (100000 - 299) * sign : 0);
                }
            }
        }
    }

    private static void promise18Spread() {
        for (int time : NO_TIMES) {
            Twins.refuse(ARGUMENT, "18 time " + time, Lines::full, l -> l.spread(time));
            Twins.refuse(ARGUMENT, "18 time " + time + " without stations", SundogLine::new, l -> l.spread(time));
        }
        Check.same("18 none at the last time", new SundogLine().spread(1000000), 0);
        Check.same("18 one at 0", Lines.at(5).spread(0), 0);
        for (int s = 0; s < 12; s++) {
            Check.same("18 the greatest is " + s, Lines.offset(s, 7).spread(0), 7);
            Check.same("18 the least is " + s, Lines.offset(s, -7).spread(1000000), 7);
        }
        SundogLine line = new SundogLine();
        line.build(0, 600, 99);
        line.build(1, -600, -99);
        line.correct(0, -100000);
        line.correct(1, 100000);
        Check.same("18 all below and above 0", line.spread(0), 201200);
        Check.same("18 the most of all", line.spread(1000000), 201200 + 198000);
        line.correct(0, 100000);
        Check.same("18 both below 0", line.spread(0), 1200);
    }

    private static void promise19Count() {
        for (int what : new int[] {LEAST, -1, 5, 6, GREATEST}) {
            Twins.refuse(INDEX, "19 what " + what, Lines::full, l -> l.count(what));
            Twins.refuse(INDEX, "19 what " + what + " of nothing", SundogLine::new, l -> l.count(what));
        }
        expectCounts("19 nothing", new SundogLine(), new int[] {0, 0, 0, 0, 0});
        SundogLine nobody = new SundogLine();
        nobody.addHalo(0, 0, 1, 0);
        expectCounts("19 a halo without stations", nobody, new int[] {0, 1, 0, 1, 0});
        expectCounts("19 one that is dark", Lines.dark(), new int[] {1, 1, 0, 1, 1});
        expectCounts("19 half of the halos", Lines.clouded(), new int[] {1, 16, 8, 8, 4});
        SundogLine most = Lines.offset(0, 0);
        for (int h = 0; h < 16; h++) {
            most.addHalo(h, 0, 50, 1);
        }
        expectCounts("19 all that there can be", most, new int[] {12, 16, 192, 0, 0});
        SundogLine full = Lines.full();
        Check.same("19 the most clouds", full.count(4), 48);
    }

    private static void expectCounts(String name, SundogLine line, int[] due) {
        for (int what = 0; what < due.length; what++) {
            Check.same(name + ": count(" + what + ")", line.count(what), due[what]);
        }
    }

    private static void promise20Error() {
        for (int none : NO_HALOS) {
            Twins.refuse(INDEX, "20 no halo " + none, Lines::full, l -> (int) l.error(none));
        }
        // Slope 0 and base 0; left are 0 10 0 0: the mean is no whole number.
        SundogLine line = Lines.reading(new int[] {0, 100, 200, 300}, new int[] {0, 10, 0, 0});
        Check.same("20 of four", line.error(0), 2.5);
        line.cloud(3, 0, 1000000);
        Check.same("20 of three", line.error(0), 10.0 / 3);
        line.cloud(1, 0, 1000000);
        Check.same("20 of two with nothing left", line.error(0), 0.0);
        line.cloud(2, 0, 1000000);
        Check.same("20 of one", line.error(0), 0.0);
        line.cloud(0, 0, 1000000);
        Check.same("20 of nobody", line.error(0), 0.0);
        SundogLine below = Lines.reading(new int[] {0, 100, 200, 300}, new int[] {0, -10, 0, 0});
        Check.same("20 without its sign", below.error(0), 2.5);
        // Slope -1, bases 0 and -2: what is left of two can be other than 0, what is left of one is not told.
        SundogLine two = Lines.reading(new int[] {0, 300}, new int[] {0, -5});
        Check.same("20 of two, left are 2 and 0", two.error(0), 1.0);
        two.cloud(1, 0, 1000000);
        Check.same("20 of the one", two.error(0), 0.0);
        SundogLine both = Lines.reading(new int[] {0, 100, 200, 300, 400}, new int[] {50, 55, 45, 50, 50});
        Check.same("20 signs do not make up for each other", both.error(0), 2.0);
    }

    /** A full line tells 5, 12 * 6 and 16 * (7 + 12) numbers, so that the digest wraps around again and again. */
    private static void promise21Digest() {
        expectDigest("21 nothing", SundogLine::new);
        expectDigest("21 one station", () -> Lines.at(999));
        expectDigest("21 one that is dark", Lines::dark);
        expectDigest("21 half of the halos", Lines::clouded);
        expectDigest("21 a full line", Lines::full);
        SundogLine halo = new SundogLine();
        halo.addHalo(0, 0, 1, 0);
        long[] told = {0, 1, 0, 1, 0, 0, UNSEEN, UNSEEN, UNSEEN, UNSEEN, 0, 0};
        long due = 521;
        for (long x : told) {
            due = due * 31 + x;
        }
        Check.same("21 a halo without stations", halo.digest(), due);
    }

    private static void expectDigest(String name, Twins.Maker maker) {
        SundogLine line = maker.make();
        BigInteger d = BigInteger.valueOf(521);
        for (int what = 0; what < 5; what++) {
            d = next(d, line.count(what));
        }
        for (int s = 0; s < line.count(0); s++) {
            for (int what = 0; what < 6; what++) {
                d = next(d, line.station(s, what));
            }
        }
        // A line of its own, so that none is asked more than 512 times.
        SundogLine asked = maker.make();
        for (int h = 0; h < line.count(1); h++) {
            for (int what = 0; what < 7; what++) {
                d = next(d, asked.halo(h, what));
            }
            for (int s = 0; s < line.count(0); s++) {
                d = next(d, asked.reading(h, s));
            }
        }
        // Without a limit first, and the last 64 bits of it then.
        Check.same(name, line.digest(), d.longValue());
        Check.same(name + " again", line.digest(), d.longValue());
    }

    private static BigInteger next(BigInteger d, int x) {
        return d.multiply(BigInteger.valueOf(31)).add(BigInteger.valueOf(x));
    }
}
