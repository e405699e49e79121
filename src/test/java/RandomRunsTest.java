import java.util.Random;

/** Long runs of calls, whose answers are compared with those of PlainStation; the seeds are the same always. */
public final class RandomRunsTest {
    private static final int RUNS = 1500;
    private static final int CALLS = 512;
    private static final int[] LEAST = {1000, 10, 2000, 1, 0, 0, 0, 10};
    private static final int[] GREATEST = {12000, 500, 16000, 60, 30, 50, 3000, 5000};
    private static final String[] ORDERS = {"d", "m", "t", "c", "r", "d12;", "m5;", "m600;", "t0;", "c0;", "r;",
        "t1;", "c1;", "t2;", "c2;", "t3;", "c4;", "d0;", "d3000;", "d3001;", "m0;", "m601", "m001;", "0", "5", "9",
        ";", "x", "d0250;", "m30;", "d600;", "m10;", "d00000;", "m1000;", "t5;", "c9", "/", ":", " "};

    private final Random random;
    private final AirStation station = new AirStation();
    private final PlainStation plain = new PlainStation();
    private final boolean isWild;

    private RandomRunsTest(long seed) {
        random = new Random(seed);
        isWild = random.nextInt(4) == 0;
    }

    public static void main(String[] args) {
        for (int run = 0; run < RUNS; run++) {
            new RandomRunsTest(run).run(run);
        }
        Checks.end();
    }

    private void run(int run) {
        if (run % 60 == 0) {
            growOld();
        }
        for (int call = 0; call < CALLS / 2; call++) {
            String told = "run " + run + " call " + call + ": ";
            compareOne(told);
            Checks.due(told + "digest()", station.digest(), plain.digest());
        }
    }

    /** So that the latest time comes near. */
    private void growOld() {
        for (int turn = 0; turn < 166; turn++) {
            compare("growing old", () -> station.pass(600), () -> plain.pass(600));
        }
    }

    private static void compare(String told, Checks.Call one, Checks.Call other) {
        Checks.dueText(told, Checks.answerOf(one), Checks.answerOf(other));
    }

    /** Mostly within the range, sometimes at an end of it, now and then just beyond it. */
    private int within(int least, int greatest) {
        int kind = random.nextInt(isWild ? 8 : 30);
        if (kind == 0) {
            return random.nextBoolean() ? least - 1 : greatest + 1;
        }
        if (kind < 3) {
            return random.nextBoolean() ? least : greatest;
        }
        return least + random.nextInt(greatest - least + 1);
    }

    /** As a day of the station would bring it: small numbers more often than large ones. */
    private int minutes(int most) {
        return random.nextInt(3) == 0 ? within(1, most) : within(1, Math.min(most, 12));
    }

    private void compareOne(String told) {
        int kind = random.nextInt(100);
        if (kind < 40) {
            compareMinutes(told);
        } else if (kind < 62) {
            compareChange(told);
        } else if (kind < 82) {
            compareQuestion(told);
        } else if (kind < 90) {
            compareValue(told);
        } else if (kind < 97) {
            compareText(told);
        } else {
            compare(told + "undo()", () -> station.undo(), () -> plain.undo());
        }
    }

    private void compareMinutes(String told) {
        if (random.nextInt(6) == 0) {
            int minutes = minutes(60);
            compare(told + "leakTest(" + minutes + ")", () -> station.leakTest(minutes), () -> plain.leakTest(minutes));
        } else {
            int minutes = minutes(600);
            compare(told + "pass(" + minutes + ")", () -> station.pass(minutes), () -> plain.pass(minutes));
        }
    }

    private void compareChange(String told) {
        int one = within(0, 4);
        switch (random.nextInt(7)) {
            case 0:
                int volume = within(100, 5000);
                compare(told + "setVolume(" + volume + ")", () -> station.setVolume(volume),
                        () -> plain.setVolume(volume));
                break;
            case 1:
            case 2:
                compareSet(told);
                break;
            case 3:
                int capacity = within(10, 500);
                compare(told + "addCompressor(" + capacity + ")", () -> station.addCompressor(capacity),
                        () -> plain.addCompressor(capacity));
                break;
            case 4:
                compare(told + "trip(" + one + ")", () -> station.trip(one), () -> plain.trip(one));
                break;
            case 5:
                compare(told + "clear(" + one + ")", () -> station.clear(one), () -> plain.clear(one));
                break;
            default:
                compare(told + "rotate()", () -> station.rotate(), () -> plain.rotate());
                break;
        }
    }

    private void compareSet(String told) {
        int what = within(0, 7);
        int row = Math.max(0, Math.min(7, what));
        int value = what == 6 && random.nextBoolean() ? random.nextInt(900)
                : what == 7 && random.nextBoolean() ? 10 + random.nextInt(40)
                : what == 0 && random.nextBoolean() ? 5000 + random.nextInt(3000)
                : within(LEAST[row], GREATEST[row]);
        compare(told + "set(" + what + ", " + value + ")", () -> station.set(what, value), () -> plain.set(what, value));
    }

    private void compareQuestion(String told) {
        int minutes = minutes(600);
        switch (random.nextInt(6)) {
            case 0:
                compare(told + "pressureIn(" + minutes + ")", () -> station.pressureIn(minutes),
                        () -> plain.pressureIn(minutes));
                break;
            case 1:
                compare(told + "minutesToLoad()", () -> station.minutesToLoad(), () -> plain.minutesToLoad());
                break;
            case 2:
                int pressure = within(0, 16000);
                compare(told + "canServe(" + pressure + ")", () -> station.canServe(pressure),
                        () -> plain.canServe(pressure));
                break;
            case 3:
                int step = within(10, 500);
                compare(told + "energyWith(" + step + ", " + minutes + ")", () -> station.energyWith(step, minutes),
                        () -> plain.energyWith(step, minutes));
                break;
            case 4:
                int few = within(1, 30);
                int stage = within(0, Math.max(0, station.value(3) - 1));
                compare(told + "bestOrder(" + few + ", " + stage + ")", () -> station.bestOrder(few, stage),
                        () -> plain.bestOrder(few, stage));
                break;
            default:
                compare(told + "loadedShare()", () -> station.loadedShare(), () -> plain.loadedShare());
                break;
        }
    }

    private void compareValue(String told) {
        int what = within(0, 11);
        int one = within(0, 4);
        compare(told + "value(" + what + ")", () -> station.value(what), () -> plain.value(what));
        compare(told + "setting(" + what + ")", () -> station.setting(what), () -> plain.setting(what));
        compare(told + "booked(" + what + ")", () -> station.booked(what), () -> plain.booked(what));
        compare(told + "result(" + what + ")", () -> station.result(what), () -> plain.result(what));
        compare(told + "atStage(" + one + ")", () -> station.atStage(one), () -> plain.atStage(one));
        compare(told + "next(" + one + ")", () -> station.next(one), () -> plain.next(one));
        compare(told + "compressor(" + one + ", " + what + ")", () -> station.compressor(one, what),
                () -> plain.compressor(one, what));
    }

    private void compareText(String told) {
        if (random.nextInt(3) > 0) {
            compare(told + "clearText()", () -> station.clearText(), () -> plain.clearText());
        }
        int orders = random.nextInt(isWild ? 40 : 8);
        for (int order = 0; order < orders; order++) {
            String bytes = ORDERS[isWild || random.nextInt(12) == 0 ? random.nextInt(ORDERS.length)
                    : 5 + random.nextInt(14)];
            for (int index = 0; index < bytes.length(); index++) {
                int value = random.nextInt(200) == 0 ? random.nextInt(140) - 6 : bytes.charAt(index);
                compare(told + "append(" + value + ")", () -> station.append(value), () -> plain.append(value));
            }
        }
        compare(told + "carryOut()", () -> station.carryOut(), () -> plain.carryOut());
    }
}
