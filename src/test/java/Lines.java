/** Lines that the tests begin with. */
final class Lines {
    private Lines() {
    }

    /** Stations at these places, with these corrections, whose clocks are right but for those. */
    static SundogLine at(int[] places, int[] corrections) {
        SundogLine line = new SundogLine();
        for (int i = 0; i < places.length; i++) {
            line.build(places[i], 0, 0);
            line.correct(i, corrections[i]);
        }
        return line;
    }

    /** Stations at these places, whose clocks are right. */
    static SundogLine at(int... places) {
        return at(places, new int[places.length]);
    }

    /** A line whose halo 0 comes to all stations, in ascending order of places, with these readings. */
    static SundogLine reading(int[] places, int[] readings) {
        SundogLine line = new SundogLine();
        int halo = line.addHalo(0, 0, 50, 0);
        for (int i = 0; i < places.length; i++) {
            line.build(places[i], 0, 0);
            line.correct(i, line.comes(halo, i) - readings[i]);
        }
        return line;
    }

    /** One station, over it four clouds of ten seconds, and a halo for each second at which one begins or ends. */
    static SundogLine clouded() {
        SundogLine line = at(500);
        for (int from = 100; from <= 400; from += 100) {
            line.cloud(0, from, from + 10);
            line.addHalo(from - 1, 500, 1, 0);
            line.addHalo(from, 500, 1, 0);
            line.addHalo(from + 9, 500, 1, 0);
            line.addHalo(from + 10, 500, 1, 0);
        }
        return line;
    }

    /** Twelve stations with four clouds each, and sixteen halos: 76 calls. */
    static SundogLine full() {
        SundogLine line = new SundogLine();
        for (int s = 0; s < 12; s++) {
            int sign = s % 2 == 0 ? 1 : -1;
            line.build(980 - 85 * s, 50 * s * sign, (99 - 7 * s) * sign);
            for (int c = 0; c < 4; c++) {
                line.cloud(s, 20000 * c + 300 * s, 20000 * c + 300 * s + 900);
            }
        }
        for (int h = 0; h < 16; h++) {
            line.addHalo(6000 * h, 61 * h, 5 + 6 * h, h % 3 - 1);
        }
        return line;
    }

    /** Twelve stations, the clock of one of them off by so much. */
    static SundogLine offset(int station, int offset) {
        SundogLine line = new SundogLine();
        for (int s = 0; s < 12; s++) {
            line.build(83 * s, s == station ? offset : 0, 0);
        }
        return line;
    }

    /** One station that does not see the one halo. */
    static SundogLine dark() {
        SundogLine line = at(500);
        line.addHalo(0, 500, 1, 0);
        line.cloud(0, 0, 1000000);
        return line;
    }

    /** Clocks too far apart for one correction: each align that is asked well is refused. */
    static SundogLine apart() {
        SundogLine line = new SundogLine();
        line.build(0, 0, 0);
        line.build(1, -600, 0);
        line.correct(0, -100000);
        line.correct(1, 100000);
        return line;
    }
}
