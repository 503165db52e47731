/** The promises of the document, one after another, with answers worked out by hand. */
public final class PromiseTest {
    private static final Class<IllegalArgumentException> ARGUMENT = IllegalArgumentException.class;
    private static final Class<IllegalStateException> STATE = IllegalStateException.class;
    private static final Class<IndexOutOfBoundsException> INDEX = IndexOutOfBoundsException.class;

    private PromiseTest() {
    }

    public static void main(String[] args) {
        promise1NewObject();
        promise2Build();
        promise3Cloud();
        promise4Clear();
        promise5Correct();
        promise6Station();
        promise7Clock();
        promise8AddHalo();
        promise9Comes();
        promise10Reading();
        promise11Order();
        promise12Halo();
        promise12Middle();
        promise12Odd();
        promise12Steady();
        promise12Steep();
        promise12Twelve();
        promise13Guess();
        promise14Blame();
        promise15Advise();
        promise16Wire();
        promise17Align();
        promise18Spread();
        promise19Count();
        promise20Error();
        promise21Digest();
        Check.report();
    }

    private static void promise1NewObject() {
        SundogLine line = new SundogLine();
        for (int what = 0; what < 5; what++) {
            Check.same("1 count of a new line", line.count(what), 0);
        }
        Check.refuses(line, INDEX, "1 station 0 of a new line", () -> line.station(0, 0));
        Check.refuses(line, INDEX, "1 halo 0 of a new line", () -> line.halo(0, 0));
        new SundogLine().build(3, 0, 0);
        Check.same("1 lines share nothing", line.count(0), 0);
    }

    private static void promise2Build() {
        SundogLine line = new SundogLine();
        Check.same("2 first", line.build(0, -600, -99), 0);
        Check.same("2 second", line.build(999, 600, 99), 1);
        Check.refuses(line, ARGUMENT, "2 place -1", () -> line.build(-1, 0, 0));
        Check.refuses(line, ARGUMENT, "2 place 1000", () -> line.build(1000, 0, 0));
        Check.refuses(line, ARGUMENT, "2 offset -601", () -> line.build(1, -601, 0));
        Check.refuses(line, ARGUMENT, "2 offset 601", () -> line.build(1, 601, 0));
        Check.refuses(line, ARGUMENT, "2 drift -100", () -> line.build(1, 0, -100));
        Check.refuses(line, ARGUMENT, "2 drift 100", () -> line.build(1, 0, 100));
        Check.refuses(line, STATE, "2 place taken", () -> line.build(999, 0, 0));
        Check.refuses(line, STATE, "2 place taken by the first", () -> line.build(0, 0, 0));
        Check.refuses(line, ARGUMENT, "2 argument ahead of place taken", () -> line.build(999, 601, 0));
        for (int i = 2; i < 12; i++) {
            Check.same("2 up to twelve", line.build(500 - i, 0, 0), i);
        }
        Check.refuses(line, STATE, "2 thirteenth", () -> line.build(700, 0, 0));
        Check.refuses(line, ARGUMENT, "2 argument ahead of thirteenth", () -> line.build(700, 0, 100));
        Check.same("2 none was built", line.count(0), 12);
        Check.same("2 numbers are by building", line.station(11, 0), 489);
    }

    private static void promise3Cloud() {
        SundogLine line = Lines.at(10, 20);
        line.addHalo(100, 10, 10, 0);
        Check.same("3 ends at the edge's time", line.cloud(0, 0, 100), 1);
        Check.same("3 'to' is free of it", line.reading(0, 0), 100);
        Check.same("3 begins behind the edge", line.cloud(0, 101, Integer.MAX_VALUE), 2);
        Check.same("3 a second behind is no cloud", line.reading(0, 0), 100);
        Check.same("3 that very second", line.cloud(0, 100, 101), 3);
        Check.same("3 'from' is in it", line.reading(0, 0), -1000000);
        Check.refuses(line, ARGUMENT, "3 from -1", () -> line.cloud(0, -1, 5));
        Check.refuses(line, ARGUMENT, "3 to is from", () -> line.cloud(0, 5, 5));
        Check.refuses(line, ARGUMENT, "3 to before from", () -> line.cloud(0, 5, 4));
        Check.refuses(line, INDEX, "3 station 2", () -> line.cloud(2, 0, 1));
        Check.refuses(line, INDEX, "3 station -1 ahead of argument", () -> line.cloud(-1, 5, 5));
        Check.same("3 fourth, over another one", line.cloud(0, 100, 101), 4);
        Check.refuses(line, STATE, "3 fifth", () -> line.cloud(0, 0, 1));
        Check.refuses(line, ARGUMENT, "3 argument ahead of fifth", () -> line.cloud(0, 1, 1));
        Check.same("3 another station has its own", line.cloud(1, 0, 1), 1);
    }

    private static void promise4Clear() {
        SundogLine line = Lines.at(10, 20);
        line.addHalo(100, 10, 10, 0);
        Check.same("4 none yet", line.clear(0), 0);
        line.cloud(0, 0, 1000);
        line.cloud(0, 50, 500);
        line.cloud(1, 0, 1);
        Check.same("4 two", line.clear(0), 2);
        Check.same("4 it sees again", line.reading(0, 0), 100);
        Check.same("4 none left", line.clear(0), 0);
        Check.same("4 the other's stays", line.station(1, 4), 1);
        Check.same("4 told anew", line.cloud(0, 0, 5), 1);
        Check.same("4 old ones do not come back", line.cloud(0, 5, 6), 2);
        Check.same("4 it still sees", line.reading(0, 0), 100);
        Check.refuses(line, INDEX, "4 station 2", () -> line.clear(2));
        Check.refuses(line, INDEX, "4 station -1", () -> line.clear(-1));
    }

    private static void promise5Correct() {
        SundogLine line = new SundogLine();
        line.build(0, 7, 0);
        Check.same("5 zero at first", line.correct(0, 100000), 0);
        Check.same("5 what was before", line.correct(0, -100000), 100000);
        Check.same("5 a correction is taken off", line.clock(0, 0), 100007);
        Check.refuses(line, ARGUMENT, "5 100001", () -> line.correct(0, 100001));
        Check.refuses(line, ARGUMENT, "5 -100001", () -> line.correct(0, -100001));
        Check.refuses(line, INDEX, "5 station 1 ahead of argument", () -> line.correct(1, 100001));
        Check.refuses(line, INDEX, "5 station -1", () -> line.correct(-1, 0));
        Check.same("5 nothing was set", line.correct(0, 0), -100000);
    }

    private static void promise6Station() {
        SundogLine line = new SundogLine();
        line.build(321, -45, 67);
        line.correct(0, 89);
        line.cloud(0, 10, 20);
        line.addHalo(0, 321, 1, 0);
        line.addHalo(15, 321, 1, 0);
        line.addHalo(0, 322, 1, 1);
        int[] due = {321, -45, 67, 89, 1, 1};
        for (int what = 0; what < due.length; what++) {
            Check.same("6 station(0, " + what + ")", line.station(0, what), due[what]);
        }
        Check.refuses(line, INDEX, "6 what 6", () -> line.station(0, 6));
        Check.refuses(line, INDEX, "6 what -1", () -> line.station(0, -1));
        Check.refuses(line, INDEX, "6 station 1", () -> line.station(1, 0));
        Check.refuses(line, INDEX, "6 station -1", () -> line.station(-1, 0));
    }

    private static void promise7Clock() {
        SundogLine line = new SundogLine();
        line.build(0, 10, -3);
        line.build(1, -10, 99);
        Check.same("7 at 0", line.clock(0, 0), 10);
        Check.same("7 drift is cut towards 0", line.clock(0, 333), 343);
        Check.same("7 drift below 0", line.clock(0, 334), 343);
        Check.same("7 the last time", line.clock(1, 1000000), 1098990);
        line.correct(1, 40);
        Check.same("7 less the correction", line.clock(1, 0), -50);
        Check.refuses(line, ARGUMENT, "7 time -1", () -> line.clock(0, -1));
        Check.refuses(line, ARGUMENT, "7 time 1000001", () -> line.clock(0, 1000001));
        Check.refuses(line, INDEX, "7 station 2 ahead of argument", () -> line.clock(2, -1));
        Check.refuses(line, INDEX, "7 station -1", () -> line.clock(-1, 0));
    }

    private static void promise8AddHalo() {
        SundogLine line = new SundogLine();
        Check.same("8 least of all", line.addHalo(0, 0, 1, -1), 0);
        Check.same("8 greatest of all", line.addHalo(100000, 999, 99, 1), 1);
        Check.refuses(line, ARGUMENT, "8 begin -1", () -> line.addHalo(-1, 0, 1, 0));
        Check.refuses(line, ARGUMENT, "8 begin 100001", () -> line.addHalo(100001, 0, 1, 0));
        Check.refuses(line, ARGUMENT, "8 place -1", () -> line.addHalo(0, -1, 1, 0));
        Check.refuses(line, ARGUMENT, "8 place 1000", () -> line.addHalo(0, 1000, 1, 0));
        Check.refuses(line, ARGUMENT, "8 speed 0", () -> line.addHalo(0, 0, 0, 0));
        Check.refuses(line, ARGUMENT, "8 speed 100", () -> line.addHalo(0, 0, 100, 0));
        Check.refuses(line, ARGUMENT, "8 direction -2", () -> line.addHalo(0, 0, 1, -2));
        Check.refuses(line, ARGUMENT, "8 direction 2", () -> line.addHalo(0, 0, 1, 2));
        for (int i = 2; i < 16; i++) {
            Check.same("8 up to sixteen, at one place too", line.addHalo(0, 0, 1, 0), i);
        }
        Check.refuses(line, STATE, "8 seventeenth", () -> line.addHalo(0, 0, 1, 0));
        Check.refuses(line, ARGUMENT, "8 argument ahead of seventeenth", () -> line.addHalo(0, 0, 0, 0));
        Check.same("8 none was told", line.count(1), 16);
    }

    private static void promise9Comes() {
        SundogLine line = Lines.at(499, 500, 501, 507);
        line.addHalo(1000, 500, 7, 0);
        line.addHalo(1000, 500, 7, 1);
        line.addHalo(1000, 500, 7, -1);
        int[][] due = {{1015, 1000, 1015, 1100}, {-1, 1000, 1015, 1100}, {1015, 1000, -1, -1}};
        line.cloud(3, 0, 9999);
        for (int h = 0; h < 3; h++) {
            for (int s = 0; s < 4; s++) {
                Check.same("9 comes(" + h + ", " + s + "), clouds or not", line.comes(h, s), due[h][s]);
            }
        }
        Check.refuses(line, INDEX, "9 halo 3", () -> line.comes(3, 0));
        Check.refuses(line, INDEX, "9 halo -1", () -> line.comes(-1, 0));
        Check.refuses(line, INDEX, "9 station 4", () -> line.comes(0, 4));
        Check.refuses(line, INDEX, "9 station -1", () -> line.comes(0, -1));
        SundogLine far = Lines.at(0);
        far.addHalo(100000, 999, 1, -1);
        Check.same("9 the latest of all", far.comes(0, 0), 199900);
    }

    private static void promise10Reading() {
        SundogLine line = new SundogLine();
        line.build(100, 20, 50);
        line.build(0, 0, 0);
        line.addHalo(1000, 0, 10, 1);
        Check.same("10 clock at 2000", line.reading(0, 0), 2120);
        line.correct(0, 5);
        Check.same("10 by the correction as it is now", line.reading(0, 0), 2115);
        line.cloud(0, 2000, 2001);
        Check.same("10 clouded", line.reading(0, 0), -1000000);
        line.addHalo(1000, 1, 10, 1);
        Check.same("10 it does not come", line.reading(1, 1), -1000000);
        line.correct(1, 100000);
        Check.same("10 below 0", line.reading(0, 1), -99000);
        Check.refuses(line, INDEX, "10 halo 2", () -> line.reading(2, 0));
        Check.refuses(line, INDEX, "10 halo -1", () -> line.reading(-1, 0));
        Check.refuses(line, INDEX, "10 station 2", () -> line.reading(0, 2));
        Check.refuses(line, INDEX, "10 station -1", () -> line.reading(0, -1));
    }

    private static void promise11Order() {
        SundogLine line = Lines.reading(new int[] {400, 300, 200, 100, 50}, new int[] {7, 5, 7, 5, 6});
        line.cloud(4, 0, 1000000);
        int[] due = {1, 3, 0, 2, -1, -1};
        for (int i = 0; i < due.length; i++) {
            Check.same("11 order(0, " + i + ")", line.order(0, i), due[i]);
        }
        Check.same("11 far behind", line.order(0, Integer.MAX_VALUE), -1);
        Check.refuses(line, INDEX, "11 index -1", () -> line.order(0, -1));
        Check.refuses(line, INDEX, "11 halo 1", () -> line.order(1, 0));
        Check.refuses(line, INDEX, "11 halo -1", () -> line.order(-1, 0));
    }

    private static void promise12Halo() {
        SundogLine line = new SundogLine();
        line.addHalo(0, 0, 50, 0);
        int[] none = {0, -1000000, -1000000, -1000000, -1000000, 0, 0};
        int[] one = {1, -1000000, -1000000, -1000000, -1000000, 1, 0};
        // Readings 200 and 640: slope 220, of which 100 and 300 km make 220 and 660; left are -20 and -20.
        int[] two = {2, 220, -20, 0, 0, 2, 0};
        expectHalo("12 nobody", line, none);
        line.build(100, 0, 0);
        expectHalo("12 one", line, one);
        line.build(300, 40, 0);
        expectHalo("12 two", line, two);
        Check.refuses(line, INDEX, "12 what 7", () -> line.halo(0, 7));
        Check.refuses(line, INDEX, "12 what -1", () -> line.halo(0, -1));
        Check.refuses(line, INDEX, "12 halo 1", () -> line.halo(1, 0));
        Check.refuses(line, INDEX, "12 halo -1", () -> line.halo(-1, 0));
    }

    private static void expectHalo(String name, SundogLine line, int[] due) {
        for (int what = 0; what < due.length; what++) {
            Check.same(name + ", halo(0, " + what + ")", line.halo(0, what), due[what]);
        }
    }

    private static void promise12Middle() {
        // Slopes 10, 70 and 40 (of the first and the last); bases 100, 70 and 100.
        expectHalo("12 middle of three slopes", Lines.reading(new int[] {0, 100, 200}, new int[] {100, 110, 180}),
                new int[] {3, 40, 100, 1, -30, 3, 0});
        // Slopes 0 0 33 50 50 100: the one with number 2. Bases -33 0 1 34: the one with number 1.
        expectHalo("12 of six slopes the third",
                Lines.reading(new int[] {0, 100, 200, 300}, new int[] {0, 0, 100, 100}), new int[] {4, 33, 0, 2, 34, 4, 0});
        // Slope -6, of which 10 and 60 km make 0 and -3, not -1 and -4.
        expectHalo("12 cut towards 0 in bases", Lines.reading(new int[] {10, 60}, new int[] {0, -3}),
                new int[] {2, -6, 0, 0, 0, 2, 1});
        // -500 / 300 is -1, not -2; bases 0 and -2.
        expectHalo("12 cut towards 0 in slopes", Lines.reading(new int[] {0, 300}, new int[] {0, -5}),
                new int[] {2, -1, -2, 0, 2, 2, 1});
        // Built in another order than they stand.
        expectHalo("12 pairs by place, not number", Lines.reading(new int[] {200, 0, 100}, new int[] {180, 100, 110}),
                new int[] {3, 40, 100, 2, -30, 3, 0});
    }

    private static void promise12Odd() {
        // Slopes -10 -2 -2 -1 0 0 0 2 5 5 and base 50: left are 0 5 -5 0 0, so that 1 and 2 are as odd.
        int[] places = {0, 100, 200, 300, 400};
        int[] readings = {50, 55, 45, 50, 50};
        SundogLine line = Lines.reading(places, readings);
        Check.same("12 slope of the flat one", line.halo(0, 1), 0);
        Check.same("12 odd of several is the smallest number", line.halo(0, 3), 1);
        Check.same("12 with its sign", line.halo(0, 4), 5);
        SundogLine turned = Lines.reading(new int[] {0, 200, 100, 300, 400}, new int[] {50, 45, 55, 50, 50});
        Check.same("12 the smallest number, not place", turned.halo(0, 3), 1);
        Check.same("12 with its sign, below 0", turned.halo(0, 4), -5);
        SundogLine exact = Lines.reading(new int[] {0, 100, 200}, new int[] {1, 2, 3});
        Check.same("12 nothing is left, so number 0", exact.halo(0, 3), 0);
    }

    private static void promise12Steady() {
        int[] places = {0, 100, 200, 300, 400, 500};
        expectSteady("12 rising but for one", places, new int[] {1, 2, 9, 3, 3, 4}, 5, 3);
        expectSteady("12 falling but for one", places, new int[] {9, 1, 7, 7, 6, 2}, 5, 10);
        expectSteady("12 all the same", places, new int[] {4, 4, 4, 4, 4, 4}, 6, 0);
        expectSteady("12 falling all", places, new int[] {6, 5, 4, 3, 2, 1}, 6, 15);
        expectSteady("12 they need not be neighbours", places, new int[] {1, 9, 2, 8, 3, 7}, 4, 6);
        expectSteady("12 by place, not number", new int[] {500, 400, 300, 200, 100, 0},
                new int[] {1, 9, 2, 8, 3, 7}, 4, 9);
        // Who takes the 50 because it fits has two.
        expectSteady("12 not the first one that fits", places, new int[] {1, 50, 2, 3, 4, 5}, 5, 4);
    }

    private static void expectSteady(String name, int[] places, int[] readings, int steady, int falling) {
        SundogLine line = Lines.reading(places, readings);
        Check.same(name + ", steady", line.halo(0, 5), steady);
        Check.same(name + ", pairs", line.halo(0, 6), falling);
    }

    private static void promise12Steep() {
        // Readings 100000 and -96000 a kilometre apart: slope -19600000; times 999 it leaves the ints.
        SundogLine line = Lines.reading(new int[] {998, 999}, new int[] {100000, -96000});
        Check.same("12 steep slope", line.halo(0, 1), -19600000);
        Check.same("12 steep base", line.halo(0, 2), 195708000);
        Check.same("12 steep odd", line.halo(0, 3), 0);
        Check.same("12 steep left", line.halo(0, 4), 0);
        Check.same("13 steep guess", line.guess(0, 0), 100000);
        Check.same("20 steep error", line.error(0), 0.0);
    }

    /** As many stations as there can be, on a straight line of readings but for the first built, at the last place. */
    private static void promise12Twelve() {
        int[] places = new int[12];
        int[] readings = new int[12];
        for (int i = 0; i < 12; i++) {
            places[i] = 50 * (11 - i);
            readings[i] = 1000 + 30 * (11 - i);
        }
        readings[0] -= 6 * 12;
        SundogLine line = Lines.reading(places, readings);
        expectHalo("12 all twelve", line, new int[] {12, 60, 1000, 0, -72, 12 - 1, 2});
        Check.same("11 the first of twelve", line.order(0, 0), 11);
        Check.same("11 the ninth of twelve", line.order(0, 8), 3);
        Check.same("11 the tenth of twelve", line.order(0, 9), 0);
        Check.same("11 the last of twelve", line.order(0, 11), 1);
        Check.same("11 behind the last of twelve", line.order(0, 12), -1);
        Check.same("13 guess of twelve", line.guess(0, 0), 1330);
        Check.same("20 error of twelve", line.error(0), 6.0);
        Check.same("14 blame of twelve", line.blame(0), 1);
        Check.same("15 advice of twelve", line.advise(0), line.station(0, 3) - 72);
    }

    private static void promise13Guess() {
        SundogLine line = Lines.reading(new int[] {0, 100, 200, 350}, new int[] {100, 110, 180, 0});
        Check.same("13 with the one that is far off", line.guess(0, 3), line.halo(0, 2) + line.halo(0, 1) * 350 / 100);
        line.cloud(3, 0, 1000000);
        Check.same("13 of one that does not see it", line.guess(0, 3), 240);
        Check.same("13 of one that sees it", line.guess(0, 1), 140);
        line.cloud(2, 0, 1000000);
        Check.same("13 of two that see it", line.guess(0, 3), 135);
        line.cloud(1, 0, 1000000);
        Check.same("13 fewer than two", line.guess(0, 0), -1000000);
        Check.refuses(line, INDEX, "13 halo 1", () -> line.guess(1, 0));
        Check.refuses(line, INDEX, "13 halo -1", () -> line.guess(-1, 0));
        Check.refuses(line, INDEX, "13 station 4", () -> line.guess(0, 4));
        Check.refuses(line, INDEX, "13 station -1", () -> line.guess(0, -1));
    }

    private static void promise14Blame() {
        SundogLine line = Lines.reading(new int[] {0, 100, 200}, new int[] {100, 110, 180});
        Check.same("14 the odd one", line.blame(1), 1);
        Check.same("14 another one", line.blame(0), 0);
        line.addHalo(500, 0, 50, 1);
        Check.same("14 of two halos", line.blame(1), 2);
        line.addHalo(0, 150, 50, -1);
        Check.same("14 a halo that two see blames nobody", line.blame(0) + line.blame(1) + line.blame(2), 2);
        line.cloud(2, 0, 1000000);
        Check.same("14 two that see are too few", line.blame(0) + line.blame(1) + line.blame(2), 0);
        Check.refuses(line, INDEX, "14 station 3", () -> line.blame(3));
        Check.refuses(line, INDEX, "14 station -1", () -> line.blame(-1));
    }

    private static void promise15Advise() {
        SundogLine line = Lines.reading(new int[] {0, 100, 200}, new int[] {100, 110, 180});
        int now = line.station(1, 3);
        Check.same("15 what is left is taken off too", line.advise(1), now - 30);
        Check.same("15 nothing is changed", line.station(1, 3), now);
        line.correct(1, line.advise(1));
        Check.same("15 behind that nothing is left", line.halo(0, 4), 0);
        line.cloud(2, 0, 1000000);
        Check.same("15 too few see it", line.advise(0), line.station(0, 3));
        Check.same("15 it does not see it", line.advise(2), line.station(2, 3));
        Check.refuses(line, INDEX, "15 station 3", () -> line.advise(3));
        Check.refuses(line, INDEX, "15 station -1", () -> line.advise(-1));

        // The clock of station 1 drifts: it reads 10, 4960 and 9910 more than its guesses.
        SundogLine several = new SundogLine();
        several.build(0, 0, 0);
        several.build(100, 0, 99);
        several.build(200, 0, 0);
        several.addHalo(50000, 0, 99, 1);
        several.addHalo(0, 0, 99, 1);
        several.addHalo(100000, 0, 99, 1);
        Check.same("15 the middle of three", several.advise(1), 4960);
        several.cloud(1, 0, 5000);
        Check.same("15 the lesser of two, that it sees", several.advise(1), 4960);
        several.cloud(2, 50000, 60000);
        Check.same("15 three must see it", several.advise(1), 9910);
    }

    private static void promise16Wire() {
        SundogLine line = new SundogLine();
        line.build(0, 10, 1);
        line.build(200, 30, 0);
        Check.same("16 66 seconds behind", line.wire(0, 1, 1000), 1066 + 30 - 1011);
        Check.same("16 and back", line.wire(1, 0, 934), 1000 + 10 + 1 - 964);
        Check.same("16 to itself", line.wire(0, 0, 77), 0);
        line.correct(1, 100);
        Check.same("16 by the corrections", line.wire(0, 1, 0), 66 + 30 - 100 - 10);
        Check.same("16 it may come behind the last time", line.wire(0, 1, 1000000), 1000066 - 70 - 1001010);
        line.build(100, 0, 0);
        Check.same("16 a third of the distance, not of the place", line.wire(2, 1, 0), 33 - 70);
        Check.refuses(line, ARGUMENT, "16 time -1", () -> line.wire(0, 1, -1));
        Check.refuses(line, ARGUMENT, "16 time 1000001", () -> line.wire(0, 1, 1000001));
        Check.refuses(line, INDEX, "16 from 3 ahead of argument", () -> line.wire(3, 0, -1));
        Check.refuses(line, INDEX, "16 to 3 ahead of argument", () -> line.wire(0, 3, -1));
        Check.refuses(line, INDEX, "16 from -1", () -> line.wire(-1, 0, 0));
        Check.refuses(line, INDEX, "16 to -1", () -> line.wire(0, -1, 0));
    }

    private static void promise17Align() {
        SundogLine line = new SundogLine();
        line.build(0, 100, 0);
        line.build(1, -50, 10);
        line.build(2, 100, 0);
        Check.same("17 one is set", line.align(0, 1000), 1);
        Check.same("17 its correction", line.station(1, 3), -140);
        Check.same("17 all read the same", line.spread(1000), 0);
        Check.same("17 what the one reads", line.clock(1, 1000), 1100);
        Check.same("17 again changes none", line.align(0, 1000), 0);
        line.correct(1, 0);
        Check.same("17 by its correction", line.align(1, 0), 2);
        Check.same("17 theirs", line.station(0, 3), 150);
        Check.same("17 its own stays", line.station(1, 3), 0);
        Check.refuses(line, ARGUMENT, "17 time -1", () -> line.align(0, -1));
        Check.refuses(line, ARGUMENT, "17 time 1000001", () -> line.align(0, 1000001));
        Check.refuses(line, INDEX, "17 station 3 ahead of argument", () -> line.align(3, -1));
        Check.refuses(line, INDEX, "17 station -1", () -> line.align(-1, 0));

        SundogLine edge = new SundogLine();
        edge.build(0, 0, 0);
        edge.build(1, 5, 0);
        edge.build(2, 0, 0);
        edge.correct(0, 100000 - 5);
        Check.same("17 just 100000", edge.align(0, 0), 2);
        Check.same("17 it stands", edge.station(1, 3), 100000);
        edge.correct(0, 100000 - 4);
        Check.refuses(edge, STATE, "17 it would be 100001", () -> edge.align(0, 0));
        Check.refuses(edge, ARGUMENT, "17 argument ahead of that", () -> edge.align(0, -1));
        Check.same("17 none is set, those before it neither", edge.station(2, 3), 100000 - 5);
        edge.correct(1, -100000);
        Check.refuses(edge, STATE, "17 it would be -100005", () -> edge.align(1, 0));
        edge.correct(1, -100000 + 5);
        Check.same("17 just -100000", edge.align(1, 0), 2);
        Check.same("17 it stands at the first", edge.station(0, 3), -100000);
        SundogLine first = new SundogLine();
        first.build(0, 1, 0);
        first.build(1, 0, 0);
        first.correct(1, 100000);
        Check.refuses(first, STATE, "17 the first would be 100001", () -> first.align(1, 0));
    }

    private static void promise18Spread() {
        SundogLine line = new SundogLine();
        Check.same("18 no stations", line.spread(0), 0);
        line.build(5, -600, 99);
        Check.same("18 one", line.spread(1000000), 0);
        line.build(6, 600, -99);
        line.build(7, 0, 0);
        Check.same("18 at 0", line.spread(0), 1200);
        Check.same("18 at the last time", line.spread(1000000), 198000 - 1200);
        line.correct(2, 1000);
        Check.same("18 by the corrections", line.spread(0), 1600);
        Check.refuses(line, ARGUMENT, "18 time -1", () -> line.spread(-1));
        Check.refuses(line, ARGUMENT, "18 time 1000001", () -> line.spread(1000001));
    }

    private static void promise19Count() {
        SundogLine line = Lines.at(10, 20, 30);
        line.addHalo(0, 20, 10, 1);
        line.addHalo(0, 31, 10, 1);
        line.addHalo(0, 20, 10, 0);
        line.addHalo(5000, 9, 10, -1);
        line.cloud(0, 0, 2000);
        line.cloud(0, 2000, 3000);
        line.cloud(2, 7, 8);
        int[] due = {3, 4, 4, 2, 3};
        for (int what = 0; what < due.length; what++) {
            Check.same("19 count(" + what + ")", line.count(what), due[what]);
        }
        line.clear(0);
        Check.same("19 sightings behind clear", line.count(2), 5);
        Check.same("19 clouds behind clear", line.count(4), 1);
        SundogLine dark = Lines.at(10);
        dark.addHalo(0, 11, 10, 1);
        Check.same("19 the first halo unseen", dark.count(3), 1);
        Check.same("19 no sighting", dark.count(2), 0);
        Check.refuses(line, INDEX, "19 what 5", () -> line.count(5));
        Check.refuses(line, INDEX, "19 what -1", () -> line.count(-1));
    }

    private static void promise20Error() {
        SundogLine line = Lines.reading(new int[] {0, 100, 200}, new int[] {100, 110, 180});
        Check.same("20 left are 0, -30, 0", line.error(0), 10.0);
        line.correct(0, line.station(0, 3) - 1);
        // Readings 101 110 180: slopes 9 39 70; bases 101 71 102; left are 0 -30 1.
        Check.same("20 no whole number", line.error(0), 31.0 / 3);
        SundogLine two = Lines.reading(new int[] {0, 300}, new int[] {0, -5});
        Check.same("20 two see it, left are 2 and 0", two.error(0), 1.0);
        line.cloud(1, 0, 1000000);
        line.cloud(2, 0, 1000000);
        Check.same("20 one sees it", line.error(0), 0.0);
        line.cloud(0, 0, 1000000);
        Check.same("20 nobody sees it", line.error(0), 0.0);
        Check.refuses(line, INDEX, "20 halo 1", () -> line.error(1));
        Check.refuses(line, INDEX, "20 halo -1", () -> line.error(-1));
    }

    private static void promise21Digest() {
        SundogLine line = new SundogLine();
        Check.same("21 of a new line", line.digest(), 521L * 31 * 31 * 31 * 31 * 31);
        line.build(100, -7, 3);
        line.build(50, 0, 0);
        line.correct(0, 9);
        line.cloud(1, 50, 60);
        line.addHalo(0, 100, 50, 1);
        line.addHalo(10, 0, 50, 0);
        // Halo 0: station 0 alone, reading -16. Halo 1: times 210 and 110, readings 194 and 110; slope 168;
        // bases 26 and 26.
        long[] told = {2, 2, 3, 0, 1, 100, -7, 3, 9, 0, 2, 50, 0, 0, 0, 1, 1,
            1, -1000000, -1000000, -1000000, -1000000, 1, 0, -16, -1000000,
            2, 168, 26, 0, 0, 2, 0, 194, 110};
        long due = 521;
        for (long x : told) {
            due = due * 31 + x;
        }
        Check.same("21 of two stations and two halos", line.digest(), due);
        Check.same("21 it changes nothing", line.digest(), due);
    }
}
