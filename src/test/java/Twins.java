/**
 * Two lines made alike: one is asked what it must refuse, the other one is spared. Whatever both are asked and told
 * behind that, they must answer alike; the digest alone does not tell of clouds and halos that no reading shows.
 */
final class Twins {
    interface Maker {
        SundogLine make();
    }

    interface Use {
        int on(SundogLine line);
    }

    private static final int LAST_TIME = 1000000;

    private Twins() {
    }

    static void refuse(Class<? extends RuntimeException> due, String what, Maker maker, Use use) {
        SundogLine asked = maker.make();
        SundogLine spared = maker.make();
        Check.refuses(asked, due, what, () -> use.on(asked));
        Check.same(what + ": what it answers behind that", allAnswers(asked), allAnswers(spared));
    }

    /** Well below 512 calls, also for a full line. */
    private static String allAnswers(SundogLine line) {
        StringBuilder all = new StringBuilder();
        askStations(all, line);
        askHalos(all, line);
        tellMore(all, line);
        return all.append(line.digest()).toString();
    }

    private static void askStations(StringBuilder all, SundogLine line) {
        for (int s = 0; s < line.count(0); s++) {
            all.append(line.clock(s, 0)).append(' ').append(line.clock(s, LAST_TIME)).append(' ');
            all.append(line.advise(s)).append(' ').append(line.blame(s)).append('\n');
        }
    }

    private static void askHalos(StringBuilder all, SundogLine line) {
        int stations = line.count(0);
        for (int h = 0; h < line.count(1); h++) {
            all.append(line.error(h)).append(' ').append(line.order(h, 0)).append(':');
            for (int s = 0; s < stations; s++) {
                all.append(' ').append(line.comes(h, s));
            }
            all.append('\n');
        }
    }

    /** How much room there is left, and what fills it: what a refused call took of it would be missing here. */
    private static void tellMore(StringBuilder all, SundogLine line) {
        for (int cloud = 0; cloud < 5; cloud++) {
            int from = 1000 * cloud;
            all.append(answer(line, l -> l.cloud(0, from, from + 500))).append(' ');
        }
        for (int i = 0; i < 13; i++) {
            int place = 986 + i;
            all.append(answer(line, l -> l.build(place, 0, 0))).append(' ');
        }
        for (int i = 0; i < 17; i++) {
            int begin = 300 * i;
            all.append(answer(line, l -> l.addHalo(begin, 500, 50, 0))).append(' ');
        }
    }

    private static String answer(SundogLine line, Use use) {
        try {
            return Integer.toString(use.on(line));
        } catch (RuntimeException thrown) {
            return thrown.getClass().getSimpleName();
        }
    }
}
