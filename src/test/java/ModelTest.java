import java.util.Random;
import java.util.function.Supplier;

/** Runs of up to 512 calls, drawn from fixed seeds, each answer beside that of the Model. */
public final class ModelTest {
    private static final int RUNS = 80;

    private final Random dice;
    private final SundogLine line = new SundogLine();
    private final Model model = new Model();
    private final int run;
    private final int placeRoom;

    private ModelTest(int run) {
        this.run = run;
        dice = new Random(7919L * run + 17);
        // A short stretch of the line makes steep slopes, and places that are taken.
        placeRoom = new int[] {1000, 1000, 30, 13}[run % 4];
    }

    public static void main(String[] args) {
        for (int run = 0; run < RUNS; run++) {
            new ModelTest(run).play();
        }
        Check.report();
    }

    private void play() {
        for (int i = 0; i < 9; i++) {
            build();
            addHalo();
        }
        for (int call = 0; call < 490; call++) {
            step(dice.nextInt(100));
        }
        compare("digest()", line::digest, model::digest);
    }

    private void step(int kind) {
        if (kind < 3) {
            build();
        } else if (kind < 6) {
            addHalo();
        } else if (kind < 26) {
            changeStation(kind);
        } else if (kind < 50) {
            askStation(kind);
        } else if (kind < 97) {
            askHalo(kind);
        } else {
            compare("digest()", line::digest, model::digest);
        }
    }

    private void build() {
        int place = near(0, placeRoom - 1);
        int offset = near(-600, 600);
        int drift = near(-99, 99);
        compare("build(" + place + ", " + offset + ", " + drift + ")",
                () -> line.build(place, offset, drift), () -> model.build(place, offset, drift));
    }

    private void addHalo() {
        int begin = near(0, 100000);
        int place = near(0, 999);
        int speed = near(1, 99);
        int direction = near(-1, 1);
        compare("addHalo(" + begin + ", " + place + ", " + speed + ", " + direction + ")",
                () -> line.addHalo(begin, place, speed, direction),
                () -> model.addHalo(begin, place, speed, direction));
    }

    private void changeStation(int kind) {
        int s = station();
        if (kind < 12) {
            int from = near(0, 150000);
            int to = dice.nextInt(8) == 0 ? from : from + dice.nextInt(90000);
            compare("cloud(" + s + ", " + from + ", " + to + ")",
                    () -> line.cloud(s, from, to), () -> model.cloud(s, from, to));
        } else if (kind < 15) {
            compare("clear(" + s + ")", () -> line.clear(s), () -> model.clear(s));
        } else if (kind < 22) {
            int reach = dice.nextInt(3) == 0 ? 100000 : 3000;
            int correction = near(-reach, reach);
            compare("correct(" + s + ", " + correction + ")",
                    () -> line.correct(s, correction), () -> model.correct(s, correction));
        } else {
            int time = near(0, dice.nextBoolean() ? 1000000 : 1000);
            compare("align(" + s + ", " + time + ")", () -> line.align(s, time), () -> model.align(s, time));
        }
    }

    private void askStation(int kind) {
        int s = station();
        int other = station();
        int time = near(0, 1000000);
        int what = near(0, 5);
        if (kind < 30) {
            compare("station(" + s + ", " + what + ")", () -> line.station(s, what), () -> model.station(s, what));
        } else if (kind < 33) {
            compare("clock(" + s + ", " + time + ")", () -> line.clock(s, time), () -> model.clock(s, time));
        } else if (kind < 37) {
            compare("blame(" + s + ")", () -> line.blame(s), () -> model.blame(s));
        } else if (kind < 41) {
            compare("advise(" + s + ")", () -> line.advise(s), () -> model.advise(s));
        } else if (kind < 45) {
            compare("wire(" + s + ", " + other + ", " + time + ")",
                    () -> line.wire(s, other, time), () -> model.wire(s, other, time));
        } else if (kind < 48) {
            compare("spread(" + time + ")", () -> line.spread(time), () -> model.spread(time));
        } else {
            compare("count(" + what + ")", () -> line.count(what), () -> model.count(what));
        }
    }

    private void askHalo(int kind) {
        int h = near(0, 15);
        int s = station();
        int what = near(0, 6);
        if (kind < 55) {
            compare("comes(" + h + ", " + s + ")", () -> line.comes(h, s), () -> model.comes(h, s));
        } else if (kind < 62) {
            compare("reading(" + h + ", " + s + ")", () -> line.reading(h, s), () -> model.reading(h, s));
        } else if (kind < 69) {
            compare("order(" + h + ", " + s + ")", () -> line.order(h, s), () -> model.order(h, s));
        } else if (kind < 85) {
            compare("halo(" + h + ", " + what + ")", () -> line.halo(h, what), () -> model.halo(h, what));
        } else if (kind < 91) {
            compare("guess(" + h + ", " + s + ")", () -> line.guess(h, s), () -> model.guess(h, s));
        } else {
            compare("error(" + h + ")", () -> line.error(h), () -> model.error(h));
        }
    }

    private int station() {
        return near(0, 11);
    }

    /** A number of this room; now and then its edge, or the one behind it. */
    private int near(int least, int greatest) {
        switch (dice.nextInt(24)) {
            case 0:
                return least;
            case 1:
                return greatest;
            case 2:
                return dice.nextInt(3) == 0 ? least - 1 : least;
            case 3:
                return dice.nextInt(3) == 0 ? greatest + 1 : greatest;
            default:
                return least + dice.nextInt(greatest - least + 1);
        }
    }

    private void compare(String call, Supplier<Object> asked, Supplier<Object> due) {
        Check.same("run " + run + ": " + call, answer(asked, "SundogLine"), answer(due, "Model"));
    }

    /** What the call answers, or throws; what was not thrown by this class's own code is told apart. */
    private static String answer(Supplier<Object> call, String thrower) {
        try {
            return call.get().toString();
        } catch (RuntimeException thrown) {
            String throwing = Check.isThrownIn(thrown, thrower) ? "throws." : "lets through ";
            return throwing + thrown.getClass().getSimpleName();
        }
    }
}
