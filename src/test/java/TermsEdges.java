/** The boundary cases of "What it is" and of the terms, up to the leak tests. */
final class TermsEdges {
    private static final Class<?> ARGUMENT = IllegalArgumentException.class;
    private static final Class<?> STATE = IllegalStateException.class;
    private static final Class<?> INDEX = IndexOutOfBoundsException.class;

    private TermsEdges() {
    }

    static void run(Edges edges) {
        edges.under("What it is");
        edges.of("a / b means division rounded down; all divided numbers are 0 or more.", TermsEdges::roundedDown);
        edges.of("An object is used for at most 512 calls after it has been made", TermsEdges::fullOfCalls);
        edges.under("Terms");
        runReceiver(edges);
        runSettings(edges);
        runCompressors(edges);
        runStages(edges);
        runSteps1And2(edges);
        runSteps3To5(edges);
        runLeakTests(edges);
    }

    private static void roundedDown() {
        AirStation station = Edges.still(10);
        int[] volumes = {4995, 4996, 4997, 5000};
        int[] pressures = {1201, 1200, 1200, 1200};
        for (int turn = 0; turn < 4; turn++) {
            Checks.due("setVolume(" + volumes[turn] + ")", station.setVolume(volumes[turn]), pressures[turn]);
        }
        station.set(5, 3);
        // 3 of 1000: 0.999, 1, 1.998, 2.001
        int[] asked = {333, 334, 666, 667};
        int[] left = {10, 9, 9, 8};
        for (int turn = 0; turn < 4; turn++) {
            Checks.due("canServe(" + asked[turn] + ")", station.canServe(asked[turn]), left[turn]);
        }
        Checks.due("nothing divided", Edges.holding(0).value(2), 0);
    }

    private static void fullOfCalls() {
        AirStation station = new AirStation();
        Checks.due("call 1", station.set(6, 1), 100);
        for (int call = 2; call <= 512; call++) {
            Checks.due("call " + call, station.set(6, call), call - 1);
        }
        AirStation other = new AirStation();
        for (int call = 1; call <= 512; call += 2) {
            Checks.due("call " + call, other.append('r'), 1);
            Checks.due("call " + (call + 1), other.clearText(), 1);
        }
    }

    // ---- receiver

    private static void runReceiver(Edges edges) {
        edges.of("It has a volume, 100 to 5000", TermsEdges::volumes);
        edges.of("initially 1000, and air, initially 6000", TermsEdges::firstAir);
        edges.of("The pressure is air * 1000 / volume.", TermsEdges::pressures);
    }

    private static void volumes() {
        AirStation station = Edges.holding(200);
        Checks.due("setVolume(100)", station.setVolume(100), 2000);
        Checks.due("value(0)", station.value(0), 100);
        Checks.due("setVolume(5000)", station.setVolume(5000), 40);
        Checks.due("value(0)", station.value(0), 5000);
        Edges.dueRefused("setVolume", station, station::setVolume, ARGUMENT, 99, 5001);
        Checks.due("value(0)", station.value(0), 5000);
    }

    private static void firstAir() {
        AirStation station = new AirStation();
        Checks.due("value(0)", station.value(0), 1000);
        Checks.due("value(1)", station.value(1), 6000);
        Checks.due("value(2)", station.value(2), 6000);
    }

    private static void pressures() {
        AirStation station = Edges.holding(5);
        Checks.due("5 liters in 5000", station.setVolume(5000), 1);
        station.set(6, 1);
        Checks.due("4 liters in 5000", station.pass(1), 0);
        Checks.due("4 liters in 4000", station.setVolume(4000), 1);
        Checks.due("4 liters in 4001", station.setVolume(4001), 0);
        Checks.due("4 liters in 100", station.setVolume(100), 40);
        station.set(6, 4);
        Checks.due("no air in 100", station.pass(1), 0);
        Checks.due("no air in 5000", station.setVolume(5000), 0);
    }

    // ---- settings

    private static void runSettings(Edges edges) {
        edges.of("0 the target (6500; 1000 to 12000)", () -> range(0, 6500, 1000, 12000));
        edges.of("1 the step (200; 10 to 500)", () -> range(1, 200, 10, 500));
        edges.of("2 the relief pressure (10000; 2000 to 16000)", () -> range(2, 10000, 2000, 16000));
        edges.of("3 the unloaded time (5; 1 to 60)", () -> range(3, 5, 1, 60));
        edges.of("4 the rest (3; 0 to 30)", () -> range(4, 3, 0, 30));
        edges.of("5 the leak (2; 0 to 50)", () -> range(5, 2, 0, 50));
        edges.of("6 the demand (100; 0 to 3000)", () -> range(6, 100, 0, 3000));
        edges.of("7 the rotation time (480; 10 to 5000)", () -> range(7, 480, 10, 5000));
    }

    private static void range(int what, int first, int least, int greatest) {
        AirStation station = new AirStation();
        Checks.due("the first value", station.setting(what), first);
        Checks.due("set to the least", station.set(what, least), first);
        Checks.due("the least", station.setting(what), least);
        Edges.dueRefused("set", station, value -> station.set(what, value), ARGUMENT, least - 1, greatest + 1,
                Integer.MIN_VALUE, Integer.MAX_VALUE);
        Checks.due("set to the greatest", station.set(what, greatest), least);
        Checks.due("the greatest", station.setting(what), greatest);
        Edges.dueRefused("set", station, value -> station.set(what, value), ARGUMENT, least - 1, greatest + 1);
        Checks.due("still the greatest", station.setting(what), greatest);
        for (int other = 0; other < 8; other++) {
            if (other != what) {
                Checks.due("setting(" + other + ")", station.setting(other), new AirStation().setting(other));
            }
        }
    }

    // ---- compressors

    private static void runCompressors(Edges edges) {
        edges.of("There are at most 5, numbered from 0", TermsEdges::atMostFive);
        edges.of("a capacity, 10 to 500", TermsEdges::capacities);
        edges.of("a number of loaded minutes and one of unloaded minutes (both 0 at first)",
                TermsEdges::minutesBeginWithNone);
        edges.of("Each is off, loaded, unloaded, or tripped", TermsEdges::fourStates);
        edges.of("at first it is off, and has no rest to go.", TermsEdges::noRestAtFirst);
    }

    private static void atMostFive() {
        AirStation station = Edges.still();
        Edges.dueRefused("compressor", station, number -> station.compressor(number, 0), INDEX, -1, 0);
        for (int number = 0; number < 5; number++) {
            Checks.due("addCompressor", station.addCompressor(10 + number), number);
            Checks.due("its capacity", station.compressor(number, 0), 10 + number);
            int next = number + 1;
            Edges.dueRefused("compressor", station, none -> station.compressor(none, 0), INDEX, -1, next);
        }
        Edges.dueRefused("addCompressor", station, station::addCompressor, STATE, 10, 500);
        Checks.due("value(3)", station.value(3), 5);
    }

    private static void capacities() {
        AirStation station = Edges.still();
        Edges.dueRefused("addCompressor", station, station::addCompressor, ARGUMENT, 9, 501);
        station.addCompressor(10);
        station.addCompressor(500);
        station.set(0, 12000);
        Checks.due("the least and the greatest deliver", station.pass(1), 6510);
        Checks.due("the least", station.compressor(0, 0), 10);
        Checks.due("the greatest", station.compressor(1, 0), 500);
    }

    private static void minutesBeginWithNone() {
        AirStation station = Edges.unloadedOne();
        station.leakTest(2);
        Checks.due("a later one", station.addCompressor(50), 1);
        Checks.dueCompressor("a later one", station, 1, 50, 0, 1, 0, 0, 0, 0, 0);
        Checks.dueCompressor("the one before", station, 0, 100, 2, 0, 1, 3, 0, 0, 1);
        // number 1 has minutes of its own, and is then taken back and added anew
        station.set(0, 12000);
        station.pass(2);
        Checks.due("loaded minutes", station.compressor(1, 3), 2);
        station.undo();
        station.undo();
        station.undo();
        Checks.due("the compressors", station.value(3), 1);
        station.addCompressor(60);
        Checks.dueCompressor("added anew", station, 1, 60, 0, 1, 0, 0, 0, 0, 0);
    }

    private static void fourStates() {
        AirStation station = Edges.still(10, 20, 30, 40);
        station.trip(2);
        station.set(0, 12000);
        station.pass(1);
        station.leakTest(1);
        station.trip(3);
        station.clear(3);
        station.clear(2);
        station.set(4, 0);
        station.trip(0);
        station.clear(0);
        station.trip(2);
        station.pass(1);
        // 0 loads again at once, 1 from being unloaded, 2 is tripped, 3 rests
        int[] states = {1, 1, 3, 0};
        for (int number = 0; number < 4; number++) {
            Checks.due("the state of " + number, station.compressor(number, 1), states[number]);
        }
        station.leakTest(1);
        Checks.due("the state of 0", station.compressor(0, 1), 2);
    }

    private static void noRestAtFirst() {
        AirStation station = Edges.still();
        station.set(4, 30);
        station.addCompressor(100);
        Checks.due("its state", station.compressor(0, 1), 0);
        Checks.due("its rest to go", station.compressor(0, 6), 0);
        Checks.due("what it does", station.next(0), 2);
        Checks.due("it loads at once", station.pass(1), 6100);
    }

    // ---- stages

    private static void runStages(Edges edges) {
        edges.of("All compressors, also tripped ones, are in an order; a new one comes last.", TermsEdges::newOneLast);
        edges.of("The place in the order, from 0, is the stage.", TermsEdges::placesFrom0);
        edges.of("loads if the pressure is below target - (k + 1) * step", TermsEdges::belowLimitOfEachStage);
        edges.of("unloads if the pressure is above target + (m - k) * step.", TermsEdges::aboveLimitOfEachStage);
        edges.of("With m compressors, tripped ones counted", TermsEdges::trippedOnesAreCounted);
        edges.of("So the bands are nested: the first one has the highest limit for loading and the highest one for "
                + "unloading.", TermsEdges::nestedBands);
    }

    private static void newOneLast() {
        AirStation station = Edges.firstAlone(1, 20);
        station.rotate();
        station.trip(0);
        station.addCompressor(30);
        Edges.dueOrder("behind a tripped one", station, 1, 0, 2);
        station.trip(1);
        station.trip(2);
        station.addCompressor(40);
        Edges.dueOrder("all but the last tripped", station, 1, 0, 2, 3);
    }

    private static void placesFrom0() {
        AirStation station = Edges.still(10, 20, 30, 40, 50);
        Edges.dueOrder("as added", station, 0, 1, 2, 3, 4);
        Edges.dueRefused("atStage", station, station::atStage, INDEX, -1, 5);
    }

    private static void belowLimitOfEachStage() {
        for (int stage = 0; stage < 5; stage++) {
            AirStation station = Edges.still(10, 10, 10, 10, 10);
            station.set(0, 6000 + (stage + 1) * 200);
            Checks.due("at the limit of " + stage, station.next(stage), 7);
            Checks.due("how many load at the limit of " + stage, loadedBehindAMinute(station), stage);
            AirStation other = Edges.still(10, 10, 10, 10, 10);
            other.set(0, 6001 + (stage + 1) * 200);
            Checks.due("below the limit of " + stage, other.next(stage), 2);
            Checks.due("how many load below the limit of " + stage, loadedBehindAMinute(other), stage + 1);
        }
    }

    private static int loadedBehindAMinute(AirStation station) {
        station.pass(1);
        return station.value(4);
    }

    private static void aboveLimitOfEachStage() {
        for (int stage = 0; stage < 5; stage++) {
            AirStation station = allLoaded();
            station.set(0, 6050 - (5 - stage) * 200);
            Checks.due("at the limit of " + stage, station.next(stage), 3);
            Checks.due("how many stay at the limit of " + stage, loadedBehindAMinute(station), stage + 1);
            AirStation other = allLoaded();
            other.set(0, 6049 - (5 - stage) * 200);
            Checks.due("above the limit of " + stage, other.next(stage), 4);
            Checks.due("how many stay above the limit of " + stage, loadedBehindAMinute(other), stage);
        }
    }

    private static AirStation allLoaded() {
        AirStation station = Edges.still(10, 10, 10, 10, 10);
        station.set(0, 12000);
        station.pass(1);
        Checks.due("the air", station.value(1), 6050);
        Checks.due("loaded", station.value(4), 5);
        return station;
    }

    private static void trippedOnesAreCounted() {
        AirStation station = Edges.still(10, 20, 30);
        station.trip(0);
        station.trip(2);
        Checks.due("loads below", station.compressor(1, 8), 6500 - 2 * 200);
        Checks.due("unloads above", station.compressor(1, 9), 6500 + 2 * 200);
        Checks.due("a tripped one loads below", station.compressor(2, 8), 6500 - 3 * 200);
        Checks.due("a tripped one unloads above", station.compressor(0, 9), 6500 + 3 * 200);
        station.clear(0);
        Checks.due("cleared, unloads above", station.compressor(1, 9), 6500 + 2 * 200);
    }

    private static void nestedBands() {
        int[] steps = {10, 200, 500};
        for (int step : steps) {
            AirStation station = Edges.still(10, 20, 30, 40, 50);
            station.set(1, step);
            for (int stage = 1; stage < 5; stage++) {
                Checks.due("loading with " + step, station.compressor(stage - 1, 8) - station.compressor(stage, 8),
                        step);
                Checks.due("unloading with " + step, station.compressor(stage - 1, 9) - station.compressor(stage, 9),
                        step);
            }
            Checks.due("the last one's band with " + step, station.compressor(4, 9) - station.compressor(4, 8),
                    6 * step);
        }
        AirStation alone = Edges.still(10);
        Checks.due("one alone", alone.compressor(0, 9) - alone.compressor(0, 8), 400);
    }

    // ---- the steps of a minute

    private static void runSteps1And2(Edges edges) {
        edges.of("If the minutes since the latest rotation (0 at first) are at least the rotation time, there is a "
                + "rotation", TermsEdges::rotationTimeReached);
        edges.of("the order becomes that of the loaded minutes, the fewest first, of like ones the lowest number",
                TermsEdges::fewestFirst);
        edges.of("the minutes since the latest rotation are 0.", TermsEdges::minutesBeginAgain);
        edges.of("each compressor that is not tripped is looked at", TermsEdges::trippedIsNotLookedAt);
        edges.of("with the pressure at the beginning of the minute.", TermsEdges::pressureOfTheBeginning);
        edges.of("One that is off and has a rest to go has a minute less of it, and does nothing else in this minute.",
                TermsEdges::restTakesItsMinutes);
        edges.of("one that is off or unloaded becomes loaded if the pressure is below its limit for loading",
                TermsEdges::loadsBelowOnly);
        edges.of("one that is loaded becomes unloaded, with the timer 0, if the pressure is above its limit for "
                + "unloading.", TermsEdges::unloadsAboveOnly);
        edges.of("One that is unloaded then, and was so at the beginning of the minute, has its timer increased by 1",
                TermsEdges::timerNeedsAWholeMinute);
        edges.of("if this is at least the unloaded time then, it becomes off", TermsEdges::unloadedTimeReached);
        edges.of("with the rest as its rest to go.", TermsEdges::restsBehindTheTimer);
    }

    private static void rotationTimeReached() {
        AirStation station = Edges.firstAlone(9, 20);
        station.set(7, 10);
        Checks.due("minutes since", station.value(8), 9);
        station.pass(1);
        Checks.dueValues("nine minutes are too few", station, 970, 6100, 6288, 2, 1, 0, 0, 10, 10, 0);
        Edges.dueOrder("nine minutes are too few", station, 0, 1);
        station.pass(1);
        Checks.due("ten are enough", station.value(9), 1);
        Edges.dueOrder("ten are enough", station, 1, 0);
        AirStation idle = Edges.still();
        idle.pass(30);
        idle.set(7, 31);
        idle.pass(1);
        Checks.due("30 of 31", idle.value(9), 0);
        idle.set(7, 20);
        idle.pass(1);
        Checks.due("31 of 20", idle.value(9), 1);
        AirStation old = Edges.still();
        old.set(7, 5000);
        for (int turn = 0; turn < 10; turn++) {
            old.pass(500);
        }
        Checks.due("the greatest time", old.value(9), 0);
        old.pass(1);
        Checks.due("a minute later", old.value(9), 1);
    }

    private static void fewestFirst() {
        AirStation station = Edges.still(10, 20, 30);
        station.rotate();
        Edges.dueOrder("none has any", station, 0, 1, 2);
        station.set(0, 12000);
        station.set(4, 0);
        station.trip(2);
        station.pass(1);
        station.rotate();
        Edges.dueOrder("1, 1, 0", station, 2, 0, 1);
        station.clear(2);
        station.trip(1);
        station.trip(0);
        station.pass(1);
        station.rotate();
        Edges.dueOrder("1, 1, 1", station, 0, 1, 2);
        station.clear(1);
        station.trip(2);
        station.pass(1);
        station.rotate();
        Edges.dueOrder("1, 2, 1", station, 0, 2, 1);
        station.pass(1);
        station.rotate();
        Edges.dueOrder("1, 3, 1", station, 0, 2, 1);
    }

    private static void minutesBeginAgain() {
        AirStation station = Edges.still();
        station.set(7, 10);
        station.pass(10);
        Checks.due("ahead of it", station.value(8), 10);
        station.pass(1);
        Checks.due("its own minute is the first one", station.value(8), 1);
        station.pass(9);
        Checks.due("rotations", station.value(9), 1);
        Checks.due("ten minutes", station.value(8), 10);
        station.pass(1);
        Checks.due("rotations", station.value(9), 2);
        Checks.due("its own minute is the first one", station.value(8), 1);
        station.rotate();
        Checks.due("by a call", station.value(8), 0);
    }

    private static void trippedIsNotLookedAt() {
        AirStation station = Edges.still(100, 10);
        station.trip(0);
        Checks.due("the other one delivers alone", station.pass(1), 6010);
        Checks.dueCompressor("tripped", station, 0, 100, 3, 0, 0, 0, 0, 0, 0);
        station.set(0, 1000);
        station.pass(10);
        Checks.dueCompressor("tripped", station, 0, 100, 3, 0, 0, 0, 0, 0, 0);
        Checks.dueCompressor("not tripped", station, 1, 10, 0, 1, 1, 5, 0, 0, 1);
    }

    private static void pressureOfTheBeginning() {
        AirStation station = Edges.still(500, 10);
        Checks.due("both load at 6000", station.pass(1), 6510);
        // the limits for unloading are 6900 and 6700
        Checks.due("both stay loaded at 6510", station.pass(1), 7020);
        Checks.due("loaded", station.value(4), 2);
        Checks.due("both unload at 7020", station.pass(1), 7020);
        Checks.due("unloaded", station.value(5), 2);
    }

    private static void restTakesItsMinutes() {
        for (int rest = 0; rest < 3; rest++) {
            AirStation station = Edges.still(100);
            station.set(4, rest);
            station.trip(0);
            station.clear(0);
            for (int left = rest; left > 0; left--) {
                Checks.due("rest to go", station.compressor(0, 6), left);
                Checks.due("in a minute of rest", station.pass(1), 6000);
            }
            Checks.dueCompressor("behind a rest of " + rest, station, 0, 100, 0, 0, 0, 0, 0, 0, 0);
            Checks.due("behind a rest of " + rest, station.pass(1), 6100);
        }
        AirStation long30 = Edges.still(100);
        long30.set(4, 30);
        long30.trip(0);
        long30.clear(0);
        Checks.due("30 minutes", long30.pass(30), 6000);
        Checks.due("the next one", long30.pass(1), 6100);
    }

    private static void loadsBelowOnly() {
        AirStation station = Edges.still(100);
        station.set(0, 6200);
        Checks.due("off, at the limit", station.pass(1), 6000);
        station.set(0, 6201);
        Checks.due("off, below it", station.pass(1), 6100);
        AirStation unloaded = Edges.unloadedOne();
        unloaded.set(0, 6300);
        Checks.due("unloaded, at the limit", unloaded.pass(1), 6100);
        Checks.dueCompressor("unloaded, at the limit", unloaded, 0, 100, 2, 0, 1, 2, 1, 0, 1);
        unloaded.set(0, 6301);
        Checks.due("unloaded, below it", unloaded.pass(1), 6200);
        Checks.dueCompressor("unloaded, below it", unloaded, 0, 100, 1, 0, 2, 2, 0, 0, 1);
    }

    private static void unloadsAboveOnly() {
        AirStation station = Edges.loadedOne();
        station.set(0, 5900);
        Checks.due("at the limit", station.pass(1), 6200);
        Checks.due("still loaded", station.compressor(0, 1), 1);
        station.set(0, 5999);
        Checks.due("above it", station.pass(1), 6200);
        Checks.dueCompressor("above it", station, 0, 100, 2, 0, 2, 1, 0, 0, 1, 5799, 6199);
        station.pass(3);
        Checks.due("its timer", station.compressor(0, 5), 3);
        station.set(0, 12000);
        station.pass(1);
        station.set(0, 5999);
        station.pass(1);
        Checks.dueCompressor("unloaded again", station, 0, 100, 2, 0, 3, 5, 0, 0, 1);
    }

    private static void timerNeedsAWholeMinute() {
        AirStation station = Edges.unloadedOne();
        Checks.due("behind the minute in which it unloads", station.compressor(0, 5), 0);
        station.pass(1);
        Checks.due("behind the next one", station.compressor(0, 5), 1);
        station.set(0, 12000);
        station.pass(1);
        Checks.due("behind one in which it loads", station.compressor(0, 5), 0);
        station.set(3, 1);
        station.set(0, 5899);
        station.pass(1);
        Checks.dueCompressor("with the least unloaded time", station, 0, 100, 2, 0, 2, 3, 0, 0, 1);
        station.pass(1);
        Checks.due("off in the next minute", station.compressor(0, 1), 0);
    }

    private static void unloadedTimeReached() {
        int[] times = {1, 2, 5, 60};
        for (int time : times) {
            AirStation station = Edges.unloadedOne();
            station.set(3, time);
            for (int timer = 1; timer < time; timer++) {
                station.pass(1);
                Checks.due("the timer of " + time, station.compressor(0, 5), timer);
                Checks.due("unloaded", station.compressor(0, 1), 2);
            }
            station.pass(1);
            Checks.dueCompressor("off by " + time, station, 0, 100, 0, 0, 1, time, 0, 3, 1);
        }
        AirStation shorter = Edges.unloadedOne();
        shorter.pass(3);
        shorter.set(3, 5);
        Checks.due("3 + 1 of 5", shorter.next(0), 5);
        shorter.set(3, 4);
        Checks.due("3 + 1 of 4", shorter.next(0), 6);
        shorter.set(3, 1);
        Checks.due("3 + 1 of 1", shorter.next(0), 6);
        shorter.pass(1);
        Checks.due("off", shorter.compressor(0, 1), 0);
    }

    private static void restsBehindTheTimer() {
        int[] rests = {0, 1, 30};
        for (int rest : rests) {
            AirStation station = Edges.unloadedOne();
            station.pass(4);
            station.set(4, rest);
            station.pass(1);
            Checks.dueCompressor("off", station, 0, 100, 0, 0, 1, 5, 0, rest, 1);
            station.set(0, 12000);
            for (int left = rest; left > 0; left--) {
                Checks.due("in its rest", station.pass(1), 6100);
            }
            Checks.due("behind its rest of " + rest, station.pass(1), 6200);
            Checks.due("its starts", station.compressor(0, 7), 2);
        }
    }

    private static void runSteps3To5(Edges edges) {
        edges.of("Each loaded one delivers its capacity, and its loaded minutes increase by 1; the unloaded minutes of "
                + "each unloaded one increase by 1.", TermsEdges::minutesOfEachState);
        edges.of("The energy increases by 10 * capacity for each loaded one, and by 3 * capacity for each unloaded "
                + "one.", TermsEdges::energyOfEachState);
        edges.of("The leak takes the pressure at the beginning of the minute * leak / 1000",
                TermsEdges::leakRoundsDown);
        edges.of("but not more than the air that is there (with what was delivered).", TermsEdges::leakOfLittleAir);
        edges.of("Then the demand takes its amount, but not more than what is left; what it lacks is unmet.",
                TermsEdges::demandTakesWhatIsLeft);
        edges.of("If the pressure is above the relief pressure, so much air is blown off that the air is relief "
                + "pressure * volume / 1000.", TermsEdges::reliefAboveOnly);
        edges.of("The time, and the minutes since the latest rotation, increase by 1.", TermsEdges::timeGoesOn);
    }

    private static void minutesOfEachState() {
        AirStation station = Edges.still(100);
        Checks.due("off", station.booked(0), 0);
        station.pass(1);
        Checks.dueCompressor("the minute in which it loads", station, 0, 100, 1, 0, 1, 0);
        Checks.due("delivered", station.booked(0), 100);
        AirStation unloaded = Edges.unloadedOne();
        Checks.dueCompressor("the minute in which it unloads", unloaded, 0, 100, 2, 0, 1, 1);
        Checks.due("delivered", unloaded.booked(0), 100);
        unloaded.pass(4);
        Checks.dueCompressor("the last unloaded one", unloaded, 0, 100, 2, 0, 1, 5);
        unloaded.pass(1);
        Checks.dueCompressor("the minute in which it stops", unloaded, 0, 100, 0, 0, 1, 5);
        unloaded.trip(0);
        unloaded.pass(1);
        Checks.dueCompressor("a tripped minute", unloaded, 0, 100, 3, 0, 1, 5);
        Checks.due("delivered", unloaded.booked(0), 100);
    }

    private static void energyOfEachState() {
        int[] capacities = {10, 500};
        for (int capacity : capacities) {
            AirStation station = Edges.still(capacity);
            station.set(0, 6200);
            station.pass(1);
            Checks.due("off", station.booked(5), 0);
            station.set(0, 12000);
            station.pass(1);
            Checks.due("loaded", station.booked(5), 10 * capacity);
            station.set(0, 1000);
            station.pass(1);
            Checks.due("unloaded", station.booked(5), 13 * capacity);
            station.pass(4);
            Checks.due("unloaded", station.booked(5), 25 * capacity);
            station.pass(1);
            Checks.due("off by the timer", station.booked(5), 25 * capacity);
            station.trip(0);
            station.pass(1);
            Checks.due("tripped", station.booked(5), 25 * capacity);
        }
    }

    private static void leakRoundsDown() {
        AirStation station = Edges.holding(500);
        station.set(5, 2);
        Checks.due("500 * 2 / 1000", station.pass(1), 499);
        Checks.due("499 * 2 / 1000", station.pass(1), 499);
        Checks.due("taken", station.booked(1), 1);
        station.set(5, 50);
        Checks.due("499 * 50 / 1000", station.pass(1), 499 - 24);
        station.set(5, 0);
        Checks.due("no leak", station.pass(1), 475);
        AirStation full = Edges.still(500);
        full.setVolume(600);
        full.set(5, 50);
        full.set(0, 12000);
        full.set(2, 16000);
        Checks.due("what is delivered does not count", full.pass(1), (6000 + 500 - 500) * 1000 / 600);
        full.setVolume(500);
        Checks.due("12000 * 50 / 1000", full.pass(1), (6000 + 500 - 600) * 1000 / 500);
        Checks.due("taken", full.booked(1), 500 + 600);
    }

    private static void leakOfLittleAir() {
        int[] airs = {0, 1, 2, 3, 100, 199};
        int[] taken = {0, 0, 1, 1, 50, 99};
        for (int turn = 0; turn < airs.length; turn++) {
            AirStation station = Edges.holding(airs[turn]);
            station.setVolume(100);
            station.set(5, 50);
            // the volume is the least and the leak the greatest there is: it takes the half of the air
            station.pass(1);
            Checks.due("taken of " + airs[turn], station.booked(1), taken[turn]);
            Checks.due("left of " + airs[turn], station.value(1), airs[turn] - taken[turn]);
        }
        AirStation delivered = Edges.holding(0);
        delivered.addCompressor(100);
        delivered.set(5, 50);
        Checks.due("no pressure, no leak", delivered.pass(1), 100);
        Checks.due("100 * 50 / 1000", delivered.pass(1), 195);
    }

    private static void demandTakesWhatIsLeft() {
        int[] demands = {0, 2849, 2850, 2851, 3000};
        int[] taken = {0, 2849, 2850, 2850, 2850};
        for (int turn = 0; turn < demands.length; turn++) {
            AirStation station = Edges.holding(3000);
            station.set(5, 50);
            station.set(6, demands[turn]);
            long before = station.booked(2);
            Checks.due("left of 3000 - 150", station.pass(1), 2850 - taken[turn]);
            Checks.due("taken", station.booked(2) - before, taken[turn]);
            Checks.due("unmet", station.booked(3), demands[turn] - taken[turn]);
        }
        AirStation empty = Edges.holding(0);
        empty.addCompressor(100);
        empty.set(6, 100);
        Checks.due("what is delivered", empty.pass(1), 0);
        Checks.due("is enough", empty.booked(3), 0);
        empty.set(6, 101);
        Checks.due("what is delivered", empty.pass(1), 0);
        Checks.due("is not enough", empty.booked(3), 1);
    }

    private static void reliefAboveOnly() {
        AirStation station = Edges.still();
        station.set(2, 6000);
        Checks.due("at the relief pressure", station.pass(1), 6000);
        Checks.due("blown off", station.booked(4), 0);
        station.set(2, 5999);
        Checks.due("no minute has passed", station.value(1), 6000);
        Checks.due("above it", station.pass(1), 5999);
        Checks.due("blown off", station.booked(4), 1);
        station.set(2, 2000);
        Checks.due("the least relief pressure", station.pass(1), 2000);
        AirStation small = Edges.still();
        small.set(2, 16000);
        small.setVolume(375);
        Checks.due("at the greatest relief pressure", small.pass(1), 16000);
        small.set(2, 15999);
        // 15999 * 375 / 1000 = 5999.6, which is at 15997.3
        Checks.due("above 15999", small.pass(1), 15997);
        Checks.due("the air", small.value(1), 5999);
        AirStation rounded = Edges.still();
        rounded.setVolume(997);
        rounded.set(2, 6018);
        Checks.due("6018.05 is not above 6018", rounded.pass(1), 6018);
        Checks.due("blown off", rounded.booked(4), 0);
    }

    private static void timeGoesOn() {
        AirStation station = Edges.still();
        station.pass(1);
        Checks.dueValues("a minute", station, 1000, 6000, 6000, 0, 0, 0, 0, 1, 1, 0);
        station.leakTest(1);
        Checks.dueValues("a minute of a test", station, 1000, 6000, 6000, 0, 0, 0, 0, 2, 2, 0);
        station.pass(478);
        Checks.dueValues("480 minutes", station, 1000, 6000, 6000, 0, 0, 0, 0, 480, 480, 0);
        station.pass(1);
        Checks.dueValues("481 minutes", station, 1000, 6000, 6000, 0, 0, 0, 0, 481, 1, 1);
    }

    // ---- leak tests

    private static void runLeakTests(Edges edges) {
        edges.of("unloads all loaded compressors (with the timer 0) at its beginning", TermsEdges::testUnloads);
        edges.of("so many minutes pass in which step 2 is left out for all compressors (they stay as they are",
                TermsEdges::testLeavesStep2Out);
        edges.of("the other steps take place)", TermsEdges::testTakesTheOtherSteps);
        edges.of("the demand takes nothing (and lacks nothing).", TermsEdges::testServesNoDemand);
        edges.of("What the leak took in these minutes, together, is the result of the test.", TermsEdges::testResult);
        edges.of("The latest 6 results are kept.", TermsEdges::sixResults);
    }

    private static void testUnloads() {
        AirStation station = Edges.loadedOne();
        station.leakTest(1);
        Checks.dueCompressor("one that was loaded", station, 0, 100, 2, 0, 1, 1, 0, 0, 1);
        Checks.due("it delivers nothing", station.value(1), 6100);
        AirStation timed = Edges.unloadedOne();
        timed.pass(3);
        timed.leakTest(1);
        Checks.dueCompressor("one that was unloaded keeps its timer", timed, 0, 100, 2, 0, 1, 5, 3, 0, 1);
        AirStation all = allLoaded();
        all.trip(2);
        all.leakTest(60);
        Checks.due("loaded", all.value(4), 0);
        Checks.due("unloaded", all.value(5), 4);
        Checks.due("tripped", all.value(6), 1);
        AirStation none = Edges.still(100);
        none.leakTest(1);
        Checks.due("one that is off", none.compressor(0, 1), 0);
    }

    private static void testLeavesStep2Out() {
        AirStation off = Edges.still(100);
        Checks.due("below its limit", off.next(0), 2);
        off.leakTest(60);
        Checks.dueCompressor("it stays off", off, 0, 100, 0, 0, 0, 0, 0, 0, 0);
        off.trip(0);
        off.clear(0);
        off.leakTest(60);
        Checks.dueCompressor("it keeps its rest", off, 0, 100, 0, 0, 0, 0, 0, 3, 0);
        AirStation unloaded = Edges.unloadedOne();
        unloaded.pass(4);
        Checks.due("its timer is due", unloaded.next(0), 6);
        unloaded.leakTest(60);
        Checks.dueCompressor("it stays unloaded", unloaded, 0, 100, 2, 0, 1, 65, 4, 0, 1);
        unloaded.set(0, 12000);
        Checks.due("below its limit", unloaded.next(0), 2);
        unloaded.leakTest(1);
        Checks.dueCompressor("it stays unloaded", unloaded, 0, 100, 2, 0, 1, 66, 4, 0, 1);
        unloaded.trip(0);
        unloaded.leakTest(1);
        Checks.dueCompressor("it stays tripped", unloaded, 0, 100, 3, 0, 1, 66, 0, 0, 1);
    }

    private static void testTakesTheOtherSteps() {
        AirStation station = Edges.firstAlone(9, 20);
        station.set(7, 10);
        station.leakTest(1);
        Checks.due("nine minutes are too few", station.value(9), 0);
        Checks.due("minutes since", station.value(8), 10);
        station.leakTest(1);
        Checks.due("ten are enough", station.value(9), 1);
        Checks.due("minutes since", station.value(8), 1);
        Edges.dueOrder("ten are enough", station, 1, 0);
        Checks.dueBooked("loaded and unloaded", station, 90, 0, 0, 0, 0, 9 * 100 + 2 * 30);
        AirStation relief = Edges.still();
        relief.set(2, 6000);
        relief.leakTest(1);
        Checks.due("at the relief pressure", relief.booked(4), 0);
        relief.set(2, 5999);
        relief.leakTest(1);
        Checks.due("above it", relief.booked(4), 1);
        relief.set(2, 5000);
        relief.set(5, 50);
        // the leak takes 299 of 5999
        Checks.due("above it", relief.leakTest(1), 299);
        Checks.due("the leak comes ahead", relief.booked(4), 1 + 700);
    }

    private static void testServesNoDemand() {
        AirStation station = Edges.still();
        station.set(6, 3000);
        station.leakTest(60);
        Checks.dueBooked("with air", station, 0, 0, 0, 0, 0, 0);
        Checks.due("the air", station.value(1), 6000);
        AirStation empty = Edges.holding(0);
        empty.set(6, 3000);
        long taken = empty.booked(2);
        empty.leakTest(60);
        Checks.dueBooked("without air", empty, 0, 0, taken, 0, 0, 0);
        empty.pass(1);
        Checks.dueBooked("the demand goes on behind it", empty, 0, 0, taken, 3000, 0, 0);
    }

    private static void testResult() {
        AirStation station = Edges.still();
        Checks.due("no leak", station.leakTest(60), 0);
        Checks.due("it is kept", station.value(11), 1);
        Checks.due("it is kept", station.result(0), 0);
        station.set(5, 50);
        station.pass(1);
        Checks.due("taken ahead of the test", station.booked(1), 300);
        Checks.due("two minutes together", station.leakTest(2), 285 + 270);
        Checks.due("result(0)", station.result(0), 555);
        Checks.due("taken in all", station.booked(1), 855);
        Checks.due("one minute", station.leakTest(1), 5145 * 50 / 1000);
        Checks.due("no air", Edges.holding(0).leakTest(60), 0);
    }

    private static void sixResults() {
        AirStation station = new AirStation();
        int[] results = new int[9];
        for (int test = 0; test < 9; test++) {
            station.set(5, test);
            results[test] = station.leakTest(1);
            Checks.due("value(11)", station.value(11), Math.min(test + 1, 6));
            int kept = Math.min(test + 1, 6);
            for (int index = 0; index < kept; index++) {
                Checks.due("result(" + index + ")", station.result(index), results[test - index]);
            }
            Edges.dueRefused("result", station, station::result, INDEX, -1, kept);
        }
    }
}
