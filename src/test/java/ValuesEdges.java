/** The boundary cases of promises 10 to 16. */
final class ValuesEdges {
    private static final Class<?> ARGUMENT = IllegalArgumentException.class;
    private static final Class<?> INDEX = IndexOutOfBoundsException.class;
    private static final int LEAST_INT = Integer.MIN_VALUE;
    private static final int GREATEST_INT = Integer.MAX_VALUE;

    private ValuesEdges() {
    }

    static void run(Edges edges) {
        runCompressor(edges);
        runAtStage(edges);
        runValue(edges);
        runSettingAndBooked(edges);
        runResult(edges);
        runNext(edges);
    }

    // ---- compressor

    private static void runCompressor(Edges edges) {
        edges.under("Promise 10");
        edges.of("Returns something about a compressor.", ValuesEdges::aboutEachOne);
        edges.of("`compressor`: number of a compressor", ValuesEdges::aboutFirstAndLast);
        edges.of("`what`: 0 its capacity, 1 0 off, 1 loaded, 2 unloaded, 3 tripped, 2 its stage, 3 its loaded minutes, "
                + "4 its unloaded minutes", ValuesEdges::whatEnds);
        edges.of("5 its timer (0 if it is not unloaded)", ValuesEdges::timerOfOthers);
        edges.of("6 its rest to go (0 if it is not off)", ValuesEdges::restOfOthers);
        edges.of("7 its starts so far: how often it became loaded from being off", ValuesEdges::startsFromOff);
        edges.of("8 its limit for loading", ValuesEdges::lowestLimits);
        edges.of("9 its limit for unloading", ValuesEdges::highestLimits);
        edges.of("Throws `IndexOutOfBoundsException` if there is no such compressor", ValuesEdges::aboutNone);
        edges.of("Throws `IllegalArgumentException` if what is out of range", ValuesEdges::whatOutOfRange);
    }

    private static void aboutEachOne() {
        AirStation station = Edges.still(100, 200, 300);
        station.trip(1);
        station.pass(1);
        Checks.dueCompressor("loaded", station, 0, 100, 1, 0, 1, 0, 0, 0, 1, 6300, 7100);
        Checks.dueCompressor("tripped", station, 1, 200, 3, 1, 0, 0, 0, 0, 0, 6100, 6900);
        // 6000 is not below 5900
        Checks.dueCompressor("off", station, 2, 300, 0, 2, 0, 0, 0, 0, 0, 5900, 6700);
        station.leakTest(1);
        Checks.dueCompressor("unloaded", station, 0, 100, 2, 0, 1, 1, 0, 0, 1, 6300, 7100);
    }

    private static void aboutFirstAndLast() {
        AirStation station = Edges.still(10, 20, 30, 40, 50);
        Checks.due("compressor(0, 0)", station.compressor(0, 0), 10);
        Checks.due("compressor(4, 0)", station.compressor(4, 0), 50);
    }

    private static void whatEnds() {
        AirStation station = Edges.still(77);
        Checks.due("compressor(0, 0)", station.compressor(0, 0), 77);
        Checks.due("compressor(0, 9)", station.compressor(0, 9), 6700);
        Edges.dueRefused("compressor(0, what)", station, what -> station.compressor(0, what), ARGUMENT, -1, 10);
    }

    private static void timerOfOthers() {
        AirStation station = Edges.unloadedOne();
        station.pass(4);
        Checks.due("unloaded", station.compressor(0, 5), 4);
        station.trip(0);
        Checks.due("tripped", station.compressor(0, 5), 0);
        station.undo();
        station.pass(1);
        Checks.due("off", station.compressor(0, 5), 0);
        station.undo();
        station.set(0, 12000);
        station.pass(1);
        Checks.due("loaded", station.compressor(0, 5), 0);
        station.leakTest(1);
        Checks.due("unloaded by a test", station.compressor(0, 5), 0);
    }

    private static void restOfOthers() {
        AirStation station = Edges.unloadedOne();
        Checks.due("unloaded", station.compressor(0, 6), 0);
        station.pass(5);
        Checks.due("off", station.compressor(0, 6), 3);
        station.pass(2);
        Checks.due("off", station.compressor(0, 6), 1);
        station.trip(0);
        Checks.due("tripped", station.compressor(0, 6), 0);
        station.undo();
        station.pass(1);
        Checks.due("rested", station.compressor(0, 6), 0);
        station.pass(1);
        Checks.due("never less than none", station.compressor(0, 6), 0);
        station.set(0, 12000);
        station.pass(1);
        Checks.due("loaded", station.compressor(0, 6), 0);
    }

    private static void startsFromOff() {
        AirStation station = Edges.still(100);
        Checks.due("none so far", station.compressor(0, 7), 0);
        station.pass(1);
        Checks.due("from being off", station.compressor(0, 7), 1);
        station.pass(1);
        Checks.due("staying loaded", station.compressor(0, 7), 1);
        station.leakTest(1);
        station.pass(1);
        Checks.due("loaded", station.compressor(0, 1), 1);
        Checks.due("from being unloaded", station.compressor(0, 7), 1);
        station.set(0, 12000);
        station.set(4, 0);
        station.trip(0);
        station.clear(0);
        station.pass(1);
        Checks.due("from being cleared", station.compressor(0, 7), 2);
    }

    private static void lowestLimits() {
        AirStation station = Edges.still(10, 20, 30, 40, 50);
        station.set(0, 1000);
        station.set(1, 500);
        int[] limits = {500, 0, -500, -1000, -1500};
        for (int number = 0; number < 5; number++) {
            Checks.due("limit of " + number, station.compressor(number, 8), limits[number]);
        }
        station.set(0, 12000);
        station.set(1, 10);
        Checks.due("the highest one", station.compressor(0, 8), 11990);
        AirStation empty = Edges.holding(0);
        empty.addCompressor(10);
        empty.addCompressor(20);
        empty.set(0, 1000);
        empty.set(1, 500);
        Checks.due("no air is not below 0", empty.next(1), 7);
        empty.set(1, 499);
        Checks.due("no air is below 2", empty.next(1), 2);
    }

    private static void highestLimits() {
        AirStation station = Edges.still(10, 20, 30, 40, 50);
        station.set(0, 12000);
        station.set(1, 500);
        int[] limits = {14500, 14000, 13500, 13000, 12500};
        for (int number = 0; number < 5; number++) {
            Checks.due("limit of " + number, station.compressor(number, 9), limits[number]);
        }
        station.set(0, 1000);
        station.set(1, 10);
        Checks.due("the lowest one", station.compressor(4, 9), 1010);
    }

    private static void aboutNone() {
        AirStation station = Edges.still();
        Edges.dueRefused("compressor(number, 0)", station, number -> station.compressor(number, 0), INDEX, 0, -1,
                LEAST_INT, GREATEST_INT);
        for (int number = 0; number < 5; number++) {
            station.addCompressor(10);
            Edges.dueRefused("compressor(number, 9)", station, none -> station.compressor(none, 9), INDEX, -1,
                    number + 1);
        }
    }

    private static void whatOutOfRange() {
        AirStation station = Edges.still(10);
        Edges.dueRefused("compressor(0, what)", station, what -> station.compressor(0, what), ARGUMENT, -1, 10,
                LEAST_INT, GREATEST_INT);
        Edges.dueRefused("compressor(1, what)", station, what -> station.compressor(1, what), INDEX, -1, 10);
    }

    // ---- atStage

    private static void runAtStage(Edges edges) {
        edges.under("Promise 11");
        edges.of("Returns the compressor of a stage.", ValuesEdges::stagesRotated);
        edges.of("`stage`: from 0", ValuesEdges::stageEnds);
        edges.of("Throws `IndexOutOfBoundsException` if there are not so many stages", ValuesEdges::tooManyStages);
    }

    private static void stagesRotated() {
        AirStation station = Edges.firstAlone(1, 20, 30, 40, 50);
        station.rotate();
        Edges.dueOrder("rotated", station, 1, 2, 3, 4, 0);
        station.trip(1);
        station.trip(0);
        Edges.dueOrder("tripped ones keep their stages", station, 1, 2, 3, 4, 0);
    }

    private static void stageEnds() {
        AirStation station = Edges.still(10, 20, 30, 40, 50);
        Checks.due("atStage(0)", station.atStage(0), 0);
        Checks.due("atStage(4)", station.atStage(4), 4);
        Checks.due("of one", Edges.still(10).atStage(0), 0);
    }

    private static void tooManyStages() {
        AirStation station = Edges.still();
        Edges.dueRefused("atStage of none", station, station::atStage, INDEX, 0, -1, LEAST_INT, GREATEST_INT);
        for (int number = 0; number < 5; number++) {
            station.addCompressor(10);
            Checks.due("the last stage", station.atStage(number), number);
            Edges.dueRefused("atStage", station, station::atStage, INDEX, -1, number + 1);
        }
    }

    // ---- value

    private static void runValue(Edges edges) {
        edges.under("Promise 12");
        edges.of("Returns a number.", ValuesEdges::firstAndLastValue);
        edges.of("`what`: 0 the volume, 1 the air, 2 the pressure, 3 the compressors", ValuesEdges::valuesOfNone);
        edges.of("4 those that are loaded, 5 those that are unloaded, 6 those that are tripped",
                ValuesEdges::countsOfAll);
        edges.of("7 the time", ValuesEdges::latestTime);
        edges.of("8 the minutes since the latest rotation", ValuesEdges::latestRotation);
        edges.of("9 the rotations so far (also by calls)", ValuesEdges::rotationsOfBothKinds);
        edges.of("10 the sum of the capacities of those that are loaded", ValuesEdges::loadedCapacity);
        edges.of("11 the leak tests whose results are kept", ValuesEdges::keptTests);
        edges.of("Throws `IllegalArgumentException` if what is out of range", ValuesEdges::valueOutOfRange);
    }

    private static void firstAndLastValue() {
        AirStation station = new AirStation();
        station.setVolume(600);
        station.leakTest(1);
        Checks.due("value(0)", station.value(0), 600);
        Checks.due("value(11)", station.value(11), 1);
        Edges.dueRefused("value", station, station::value, ARGUMENT, -1, 12);
    }

    private static void valuesOfNone() {
        Checks.dueValues("new", new AirStation(), 1000, 6000, 6000, 0, 0, 0, 0, 0, 0, 0, 0, 0);
        AirStation empty = Edges.holding(0);
        empty.setVolume(100);
        Checks.dueValues("without air", empty, 100, 0, 0, 0, 0, 0, 0, 2, 2, 0, 0, 0);
        empty.addCompressor(10);
        Checks.dueValues("with one that is off", empty, 100, 0, 0, 1, 0, 0, 0, 2, 2, 0, 0, 0);
    }

    private static void countsOfAll() {
        AirStation station = Edges.still(10, 20, 30, 40, 50);
        Checks.dueValues("all off", station, 1000, 6000, 6000, 5, 0, 0, 0, 0, 0, 0, 0, 0);
        station.set(0, 12000);
        station.pass(1);
        Checks.dueValues("all loaded", station, 1000, 6150, 6150, 5, 5, 0, 0, 1, 1, 0, 150, 0);
        station.leakTest(1);
        Checks.dueValues("all unloaded", station, 1000, 6150, 6150, 5, 0, 5, 0, 2, 2, 0, 0, 1);
        for (int number = 0; number < 5; number++) {
            station.trip(number);
        }
        Checks.dueValues("all tripped", station, 1000, 6150, 6150, 5, 0, 0, 5, 2, 2, 0, 0, 1);
        station.clear(4);
        Checks.dueValues("all but one", station, 1000, 6150, 6150, 5, 0, 0, 4, 2, 2, 0, 0, 1);
    }

    private static void latestTime() {
        AirStation station = Edges.aged(99999);
        station.pass(1);
        Checks.due("the latest time", station.value(7), 100000);
        Edges.dueRefused("pass", station, station::pass, IllegalStateException.class, 1);
        station.rotate();
        Checks.due("a rotation takes no time", station.value(7), 100000);
    }

    private static void latestRotation() {
        AirStation station = Edges.still();
        station.set(7, 10);
        int[] since = {1, 2, 3, 4, 5, 6, 7, 8, 9, 10, 1, 2};
        for (int minute = 0; minute < since.length; minute++) {
            station.pass(1);
            Checks.due("value(8) behind " + (minute + 1), station.value(8), since[minute]);
        }
        station.rotate();
        Checks.due("value(8)", station.value(8), 0);
        AirStation old = Edges.still();
        old.set(7, 5000);
        for (int turn = 0; turn < 10; turn++) {
            old.pass(500);
        }
        Checks.due("the most that there are", old.value(8), 5000);
        old.pass(1);
        Checks.due("and then", old.value(8), 1);
    }

    private static void rotationsOfBothKinds() {
        AirStation station = Edges.still();
        station.set(7, 10);
        Checks.due("none so far", station.value(9), 0);
        station.pass(10);
        Checks.due("none so far", station.value(9), 0);
        station.pass(1);
        Checks.due("by the time", station.value(9), 1);
        station.rotate();
        Checks.due("by a call", station.value(9), 2);
        station.append('r');
        station.append(';');
        station.carryOut();
        Checks.due("by an order", station.value(9), 3);
        station.leakTest(11);
        Checks.due("in a leak test", station.value(9), 4);
        station.pressureIn(600);
        Checks.due("a question asks for some, but makes none", station.value(9), 4);
    }

    private static void loadedCapacity() {
        AirStation station = Edges.still(500, 500, 500, 500, 500);
        Checks.due("none", station.value(10), 0);
        station.set(0, 12000);
        station.pass(1);
        Checks.due("all", station.value(10), 2500);
        station.trip(4);
        Checks.due("all but a tripped one", station.value(10), 2000);
        station.leakTest(1);
        Checks.due("none", station.value(10), 0);
    }

    private static void keptTests() {
        AirStation station = new AirStation();
        for (int test = 1; test <= 9; test++) {
            station.leakTest(1);
            Checks.due("behind " + test, station.value(11), Math.min(test, 6));
        }
        station.undo();
        Checks.due("undone", station.value(11), 6);
    }

    private static void valueOutOfRange() {
        AirStation station = new AirStation();
        Edges.dueRefused("value", station, station::value, ARGUMENT, -1, 12, LEAST_INT, GREATEST_INT);
        Checks.due("value(0)", station.value(0), 1000);
        Checks.due("value(11)", station.value(11), 0);
    }

    // ---- setting and booked

    private static void runSettingAndBooked(Edges edges) {
        edges.under("Promise 13");
        edges.of("Returns a setting.", ValuesEdges::settingsOfNew);
        edges.of("`what`: 0 to 7", ValuesEdges::settingEnds);
        edges.of("Throws `IllegalArgumentException` if what is out of range", ValuesEdges::settingOutOfRange);
        edges.under("Promise 14");
        edges.of("Returns a booked amount, the sum so far.", ValuesEdges::bookedBeyondInt);
        edges.of("`what`: 0 delivered, 1 taken by the leak, 2 taken by the demand, 3 unmet, 4 blown off, 5 the energy",
                ValuesEdges::bookedOneByOne);
        edges.of("Throws `IllegalArgumentException` if what is out of range", ValuesEdges::bookedOutOfRange);
    }

    private static void settingsOfNew() {
        int[] first = {6500, 200, 10000, 5, 3, 2, 100, 480};
        AirStation station = new AirStation();
        for (int what = 0; what < 8; what++) {
            Checks.due("setting(" + what + ")", station.setting(what), first[what]);
        }
    }

    private static void settingEnds() {
        AirStation station = new AirStation();
        station.set(0, 12000);
        station.set(7, 5000);
        Checks.due("setting(0)", station.setting(0), 12000);
        Checks.due("setting(7)", station.setting(7), 5000);
    }

    private static void settingOutOfRange() {
        AirStation station = new AirStation();
        Edges.dueRefused("setting", station, station::setting, ARGUMENT, -1, 8, LEAST_INT, GREATEST_INT);
    }

    private static void bookedBeyondInt() {
        AirStation station = Edges.still(500, 500, 500, 500, 500);
        station.set(6, 3000);
        station.set(0, 12000);
        for (int turn = 1; turn <= 144; turn++) {
            station.pass(600);
            // 6000 liters are there at first, and 500 more are asked for than are delivered in each minute
            Checks.due("delivered", station.booked(0), 2500L * 600 * turn);
            Checks.due("unmet", station.booked(3), 500L * 600 * turn - 6000);
            Checks.due("the energy", station.booked(5), 25000L * 600 * turn);
        }
        // 144 * 600 * 25000 = 2160000000 is beyond the greatest int
        Checks.due("the energy", station.booked(5), 2160000000L);
    }

    private static void bookedOneByOne() {
        AirStation station = new AirStation();
        Checks.dueBooked("at first", station, 0, 0, 0, 0, 0, 0);
        station.set(6, 0);
        station.set(5, 0);
        station.addCompressor(100);
        station.pass(1);
        Checks.dueBooked("delivered", station, 100, 0, 0, 0, 0, 1000);
        station.trip(0);
        station.set(5, 50);
        station.pass(1);
        Checks.dueBooked("the leak", station, 100, 305, 0, 0, 0, 1000);
        station.set(5, 0);
        station.set(6, 3000);
        station.pass(1);
        Checks.dueBooked("the demand", station, 100, 305, 3000, 0, 0, 1000);
        station.set(2, 2000);
        station.set(6, 0);
        station.pass(1);
        Checks.dueBooked("blown off", station, 100, 305, 3000, 0, 795, 1000);
        station.set(6, 2001);
        station.pass(1);
        Checks.dueBooked("unmet", station, 100, 305, 5000, 1, 795, 1000);
    }

    private static void bookedOutOfRange() {
        AirStation station = new AirStation();
        Edges.dueRefused("booked", station, station::booked, ARGUMENT, -1, 6, LEAST_INT, GREATEST_INT);
        Checks.due("booked(0)", station.booked(0), 0);
        Checks.due("booked(5)", station.booked(5), 0);
    }

    // ---- result

    private static void runResult(Edges edges) {
        edges.under("Promise 15");
        edges.of("Returns the result of a leak test.", ValuesEdges::resultsOfTests);
        edges.of("`index`: 0 for the latest one, and so on", ValuesEdges::resultsFromTheLatest);
        edges.of("Returns the result.", ValuesEdges::resultOfNothing);
        edges.of("Throws `IndexOutOfBoundsException` if not so many are kept", ValuesEdges::tooFewResults);
    }

    private static void resultsOfTests() {
        AirStation station = new AirStation();
        int[] minutes = {1, 2, 59, 60};
        for (int some : minutes) {
            long before = station.booked(1);
            int result = station.leakTest(some);
            Checks.due("what the leak took in " + some, station.booked(1) - before, result);
            Checks.due("result(0) of " + some, station.result(0), result);
            station.pass(1);
            Checks.due("result(0) a minute later", station.result(0), result);
        }
    }

    private static void resultsFromTheLatest() {
        AirStation station = Edges.still();
        // so many of 1000 of what the tests before have left: 6000, 5940, 5822, 5648, 5423, 5152, 5101, 4948
        int[] leaks = {10, 20, 30, 40, 50, 10, 30, 50};
        int[] results = {60, 118, 174, 225, 271, 51, 153, 247};
        for (int test = 0; test < 8; test++) {
            station.set(5, leaks[test]);
            Checks.due("leakTest(1)", station.leakTest(1), results[test]);
            Checks.due("the latest one", station.result(0), results[test]);
        }
        for (int index = 0; index < 6; index++) {
            Checks.due("result(" + index + ")", station.result(index), results[7 - index]);
        }
    }

    private static void resultOfNothing() {
        AirStation station = Edges.holding(0);
        station.leakTest(1);
        Checks.due("of no air", station.result(0), 0);
        AirStation greatest = Edges.still();
        greatest.set(2, 16000);
        greatest.set(5, 50);
        greatest.setVolume(5000);
        for (int number = 0; number < 5; number++) {
            greatest.addCompressor(500);
        }
        greatest.set(0, 12000);
        greatest.pass(600);
        int asked = greatest.value(2) * 50 / 1000;
        Checks.due("of much air", greatest.leakTest(1), asked);
        Checks.due("of much air", greatest.result(0), asked);
    }

    private static void tooFewResults() {
        AirStation station = new AirStation();
        Edges.dueRefused("result of none", station, station::result, INDEX, 0, -1, LEAST_INT, GREATEST_INT);
        for (int test = 1; test <= 8; test++) {
            station.leakTest(1);
            int kept = Math.min(test, 6);
            Checks.due("the oldest one", station.result(kept - 1) > 0 ? 1 : 0, 1);
            Edges.dueRefused("result", station, station::result, INDEX, -1, kept);
        }
        for (int left = 4; left > 0; left--) {
            station.undo();
        }
        Checks.due("undone", station.value(11), 4);
        Edges.dueRefused("result undone", station, station::result, INDEX, 4, 5);
    }

    // ---- next

    private static void runNext(Edges edges) {
        edges.under("Promise 16");
        edges.of("Tells what a compressor would do in step 2 of the next minute, without a rotation ahead of it.",
                ValuesEdges::nextWithoutRotation);
        edges.of("`compressor`: number of a compressor", ValuesEdges::nextOfFirstAndLast);
        edges.of("Returns 0 it is tripped, 1 its rest goes on, 2 it loads", ValuesEdges::nextOfTrippedAndResting);
        edges.of("3 it stays loaded, 4 it unloads", ValuesEdges::nextOfLoaded);
        edges.of("5 it stays unloaded, 6 it is off by its timer", ValuesEdges::nextOfUnloaded);
        edges.of("7 it stays off.", ValuesEdges::nextOfOff);
        edges.of("Throws `IndexOutOfBoundsException` if there is no such compressor", ValuesEdges::nextOfNone);
    }

    private static void nextWithoutRotation() {
        AirStation station = Edges.firstAlone(9, 20);
        station.set(7, 10);
        station.pass(1);
        // a rotation is due: with it 1 would come to stage 0, and 6288 is below the limit 6300
        Checks.due("next(1)", station.next(1), 7);
        Checks.due("next(0)", station.next(0), 3);
        long before = station.digest();
        station.next(1);
        Checks.due("it is a question", station.digest(), before);
        station.rotate();
        Checks.due("next(1) behind a rotation", station.next(1), 2);
    }

    private static void nextOfFirstAndLast() {
        AirStation station = Edges.still(10, 20, 30, 40, 50);
        // the limits are 6300, 6100, 5900, 5700, 5500
        int[] does = {2, 2, 7, 7, 7};
        for (int number = 0; number < 5; number++) {
            Checks.due("next(" + number + ")", station.next(number), does[number]);
        }
    }

    private static void nextOfTrippedAndResting() {
        AirStation station = Edges.still(100);
        Checks.due("below its limit", station.next(0), 2);
        station.trip(0);
        Checks.due("tripped, below its limit", station.next(0), 0);
        station.set(4, 1);
        station.clear(0);
        Checks.due("a rest of 1", station.next(0), 1);
        station.set(0, 1000);
        Checks.due("a rest of 1, above its limit", station.next(0), 1);
        station.set(0, 6500);
        station.pass(1);
        Checks.due("no rest", station.next(0), 2);
        station.trip(0);
        station.set(4, 0);
        station.clear(0);
        Checks.due("a rest of 0", station.next(0), 2);
    }

    private static void nextOfLoaded() {
        AirStation station = Edges.loadedOne();
        Checks.due("within the band", station.next(0), 3);
        station.set(0, 5900);
        Checks.due("at the limit for unloading", station.next(0), 3);
        station.set(0, 5899);
        Checks.due("above it", station.next(0), 4);
        station.set(0, 12000);
        Checks.due("below the limit for loading", station.next(0), 3);
    }

    private static void nextOfUnloaded() {
        AirStation station = Edges.unloadedOne();
        station.set(3, 2);
        Checks.due("timer 0 of 2", station.next(0), 5);
        station.set(3, 1);
        Checks.due("timer 0 of 1", station.next(0), 6);
        station.set(3, 60);
        station.pass(58);
        Checks.due("timer 58 of 60", station.next(0), 5);
        station.pass(1);
        Checks.due("timer 59 of 60", station.next(0), 6);
        station.set(0, 6300);
        Checks.due("at the limit for loading", station.next(0), 6);
        station.set(0, 6301);
        Checks.due("below it", station.next(0), 2);
        station.set(0, 1000);
        Checks.due("above the limit for unloading", station.next(0), 6);
    }

    private static void nextOfOff() {
        AirStation station = Edges.still(100);
        station.set(0, 6200);
        Checks.due("at the limit for loading", station.next(0), 7);
        station.set(0, 6201);
        Checks.due("below it", station.next(0), 2);
        station.set(0, 1000);
        Checks.due("above the limit for unloading", station.next(0), 7);
    }

    private static void nextOfNone() {
        AirStation station = Edges.still();
        Edges.dueRefused("next of none", station, station::next, INDEX, 0, -1, LEAST_INT, GREATEST_INT);
        for (int number = 0; number < 5; number++) {
            station.addCompressor(10);
            Edges.dueRefused("next", station, station::next, INDEX, -1, number + 1);
        }
    }
}
