import java.util.ArrayList;
import java.util.List;

/** The boundary cases of promises 17 to 22: the questions, which change nothing. */
final class QuestionEdges {
    private static final Class<?> ARGUMENT = IllegalArgumentException.class;
    private static final Class<?> INDEX = IndexOutOfBoundsException.class;
    private static final int LEAST_INT = Integer.MIN_VALUE;
    private static final int GREATEST_INT = Integer.MAX_VALUE;

    private QuestionEdges() {
    }

    static void run(Edges edges) {
        runPressureIn(edges);
        runMinutesToLoad(edges);
        runCanServe(edges);
        runEnergyWith(edges);
        runBestOrder(edges);
        runLoadedShare(edges);
    }

    // ---- pressureIn

    private static void runPressureIn(Edges edges) {
        edges.under("Promise 17");
        edges.of("Tells the pressure after some minutes, if nothing else is done", QuestionEdges::pressureThatComes);
        edges.of("(here and in the next questions also beyond the time 100000).", QuestionEdges::beyondTheLatestTime);
        edges.of("`minutes`: 0 to 600", QuestionEdges::pressureInEnds);
        edges.of("Returns the pressure.", QuestionEdges::pressureOfNoAir);
        edges.of("Throws `IllegalArgumentException` if minutes is out of range", QuestionEdges::pressureInOutOfRange);
    }

    private static void pressureThatComes() {
        AirStation station = new AirStation();
        station.addCompressor(150);
        station.addCompressor(50);
        station.set(7, 10);
        int[] minutes = {1, 9, 10, 11, 600};
        for (int some : minutes) {
            long before = station.digest();
            int asked = station.pressureIn(some);
            Checks.due("the digest", station.digest(), before);
            Checks.due("pressureIn(" + some + ")", station.pass(some), asked);
            station.undo();
        }
        Checks.due("the time", station.value(7), 0);
    }

    private static void beyondTheLatestTime() {
        AirStation station = Edges.aged(99999, 100);
        Checks.due("to the latest time", station.pressureIn(1), 6100);
        Checks.due("a minute beyond it", station.pressureIn(2), 6200);
        station.pass(1);
        station.trip(0);
        station.set(4, 2);
        station.clear(0);
        Checks.due("the latest time", station.value(7), 100000);
        Checks.due("pressureIn(2) in the rest", station.pressureIn(2), 6100);
        Checks.due("pressureIn(3) behind it", station.pressureIn(3), 6200);
        // 6800 is above 6700: seven minutes in which it is loaded
        Checks.due("pressureIn(600)", station.pressureIn(600), 6800);
        Checks.due("minutesToLoad()", station.minutesToLoad(), 3);
        Checks.due("canServe(500)", station.canServe(500), 100);
        Checks.due("energyWith(200, 3)", station.energyWith(200, 3), 1000);
        Checks.due("energyWith(500, 600)", station.energyWith(500, 600), 0);
        Checks.due("bestOrder(30, 0)", station.bestOrder(30, 0), 0);
        Checks.due("the time stays", station.value(7), 100000);
        AirStation two = Edges.aged(100000, 300, 100);
        two.setVolume(970);
        // the first one of the order loads alone
        Checks.due("bestOrder(1, 0)", two.bestOrder(1, 0), 1);
        Checks.due("bestOrder(1, 1)", two.bestOrder(1, 1), 0);
    }

    private static void pressureInEnds() {
        AirStation station = Edges.still(100);
        Checks.due("pressureIn(0)", station.pressureIn(0), 6000);
        Checks.due("pressureIn(1)", station.pressureIn(1), 6100);
        station.trip(0);
        station.setVolume(5000);
        station.set(6, 10);
        Checks.due("pressureIn(599)", station.pressureIn(599), 10 * 1000 / 5000);
        Checks.due("pressureIn(600)", station.pressureIn(600), 0);
        station.set(6, 9);
        Checks.due("pressureIn(600)", station.pressureIn(600), 600 * 1000 / 5000);
    }

    private static void pressureOfNoAir() {
        AirStation station = Edges.holding(0);
        Checks.due("pressureIn(0)", station.pressureIn(0), 0);
        Checks.due("pressureIn(600)", station.pressureIn(600), 0);
        station.set(6, 3000);
        Checks.due("pressureIn(600)", station.pressureIn(600), 0);
        AirStation above = Edges.still();
        above.set(2, 2000);
        Checks.due("no minute blows off", above.pressureIn(0), 6000);
        Checks.due("one minute does", above.pressureIn(1), 2000);
    }

    private static void pressureInOutOfRange() {
        AirStation station = Edges.still(100);
        Edges.dueRefused("pressureIn", station, station::pressureIn, ARGUMENT, -1, 601, LEAST_INT, GREATEST_INT);
    }

    // ---- minutesToLoad

    private static void runMinutesToLoad(Edges edges) {
        edges.under("Promise 18");
        edges.of("Tells in which minute from now on a compressor would first become loaded in step 2, if nothing else "
                + "is done.", QuestionEdges::becomesLoaded);
        edges.of("Returns 1 for the next minute, and so on", QuestionEdges::firstMinutes);
        edges.of("at most 600; NONE if none would in these.", QuestionEdges::lastMinutes);
    }

    private static void becomesLoaded() {
        AirStation loaded = Edges.loadedOne();
        Checks.due("it is loaded and stays so", loaded.minutesToLoad(), AirStation.NONE);
        loaded.leakTest(1);
        Checks.due("from being unloaded", loaded.minutesToLoad(), 1);
        AirStation both = Edges.loadedOne();
        both.addCompressor(10);
        both.set(0, 12000);
        Checks.due("the other one", both.minutesToLoad(), 1);
        AirStation rotated = Edges.firstAlone(8, 20);
        rotated.set(7, 10);
        // the eleventh minute begins with a rotation: 6288 is below the limit of stage 0 then
        Checks.due("by a rotation", rotated.minutesToLoad(), 3);
        long before = rotated.digest();
        rotated.minutesToLoad();
        Checks.due("the digest", rotated.digest(), before);
    }

    private static void firstMinutes() {
        AirStation station = Edges.still(10);
        station.set(6, 1);
        station.set(0, 6201);
        Checks.due("6000 is below 6001", station.minutesToLoad(), 1);
        station.set(0, 6200);
        Checks.due("5999 is below 6000", station.minutesToLoad(), 2);
        station.set(0, 6199);
        Checks.due("5998 is below 5999", station.minutesToLoad(), 3);
        station.set(6, 0);
        station.set(0, 12000);
        int[] rests = {0, 1, 30};
        for (int rest : rests) {
            station.set(4, rest);
            station.trip(0);
            station.clear(0);
            Checks.due("behind a rest of " + rest, station.minutesToLoad(), rest + 1);
        }
    }

    private static void lastMinutes() {
        AirStation station = Edges.still(10);
        station.set(6, 1);
        station.set(0, 5603);
        // 6000 - 598 is below 5403
        Checks.due("in the minute 599", station.minutesToLoad(), 599);
        station.set(0, 5602);
        Checks.due("in the minute 600", station.minutesToLoad(), 600);
        station.set(0, 5601);
        Checks.due("in the minute 601", station.minutesToLoad(), AirStation.NONE);
        station.pass(1);
        Checks.due("a minute later", station.minutesToLoad(), 600);
        station.trip(0);
        Checks.due("tripped", station.minutesToLoad(), AirStation.NONE);
        Checks.due("of none", Edges.holding(0).minutesToLoad(), AirStation.NONE);
    }

    // ---- canServe

    private static void runCanServe(Edges edges) {
        edges.under("Promise 19");
        edges.of("Tells the greatest demand that the compressors that are not tripped could serve, all loaded, with "
                + "the pressure staying at a value.", QuestionEdges::serversOfEachState);
        edges.of("`pressure`: 0 to 16000", QuestionEdges::canServeEnds);
        edges.of("Returns the sum of their capacities less what the leak takes at this pressure; 0 if this is "
                + "negative.", QuestionEdges::canServeNothing);
        edges.of("Throws `IllegalArgumentException` if pressure is out of range", QuestionEdges::canServeOutOfRange);
    }

    private static void serversOfEachState() {
        AirStation station = Edges.still(10, 20, 40, 80, 160);
        Checks.due("all off", station.canServe(0), 310);
        station.set(0, 12000);
        station.trip(4);
        station.pass(1);
        Checks.due("four loaded, one tripped", station.canServe(0), 150);
        station.leakTest(1);
        Checks.due("four unloaded", station.canServe(0), 150);
        station.trip(0);
        Checks.due("two tripped", station.canServe(0), 140);
        station.clear(4);
        Checks.due("one at rest", station.canServe(0), 300);
        for (int number = 1; number < 5; number++) {
            station.trip(number);
        }
        Checks.due("all tripped", station.canServe(0), 0);
    }

    private static void canServeEnds() {
        AirStation station = Edges.still(500);
        station.set(5, 2);
        Checks.due("canServe(0)", station.canServe(0), 500);
        Checks.due("canServe(1)", station.canServe(1), 500);
        Checks.due("canServe(15999)", station.canServe(15999), 500 - 31);
        Checks.due("canServe(16000)", station.canServe(16000), 500 - 32);
        station.setVolume(5000);
        Checks.due("whatever the volume", station.canServe(16000), 500 - 32);
    }

    private static void canServeNothing() {
        AirStation station = Edges.still(10);
        station.set(5, 50);
        int[] pressures = {0, 19, 20, 199, 200, 219, 220, 16000};
        int[] served = {10, 10, 9, 1, 0, 0, 0, 0};
        for (int turn = 0; turn < pressures.length; turn++) {
            Checks.due("canServe(" + pressures[turn] + ")", station.canServe(pressures[turn]), served[turn]);
        }
        station.set(5, 0);
        Checks.due("without a leak", station.canServe(16000), 10);
        AirStation none = Edges.still();
        Checks.due("of none", none.canServe(0), 0);
        none.set(5, 50);
        Checks.due("of none", none.canServe(16000), 0);
        AirStation most = Edges.still(500, 500, 500, 500, 500);
        most.set(5, 50);
        Checks.due("of the most", most.canServe(16000), 2500 - 800);
    }

    private static void canServeOutOfRange() {
        AirStation station = Edges.still(100);
        Edges.dueRefused("canServe", station, station::canServe, ARGUMENT, -1, 16001, LEAST_INT, GREATEST_INT);
    }

    // ---- energyWith

    private static void runEnergyWith(Edges edges) {
        edges.under("Promise 20");
        edges.of("Tells the energy of some minutes, if nothing else is done, with another step.",
                QuestionEdges::energyAsSet);
        edges.of("`step`: 10 to 500", QuestionEdges::stepEnds);
        edges.of("`minutes`: 1 to 600", QuestionEdges::energyMinutes);
        edges.of("Returns the energy.", QuestionEdges::energyOfNone);
        edges.of("Throws `IllegalArgumentException` if step or minutes is out of range",
                QuestionEdges::energyOutOfRange);
    }

    private static void energyAsSet() {
        int[] steps = {10, 199, 200, 201, 500};
        for (int step : steps) {
            AirStation station = new AirStation();
            station.addCompressor(150);
            station.addCompressor(50);
            station.pass(3);
            long before = station.digest();
            int asked = station.energyWith(step, 100);
            Checks.due("the digest", station.digest(), before);
            long booked = station.booked(5);
            station.set(1, step);
            station.pass(100);
            Checks.due("energyWith(" + step + ", 100)", asked, station.booked(5) - booked);
        }
    }

    private static void stepEnds() {
        AirStation station = Edges.still(100);
        station.set(0, 6500);
        Checks.due("6000 is below 6490", station.energyWith(10, 1), 1000);
        Checks.due("6000 is below 6001", station.energyWith(499, 1), 1000);
        Checks.due("6000 is not below 6000", station.energyWith(500, 1), 0);
        station.set(0, 6010);
        Checks.due("6000 is not below 6000", station.energyWith(10, 1), 0);
        station.set(0, 6011);
        Checks.due("6000 is below 6001", station.energyWith(10, 1), 1000);
        Checks.due("6000 is not below 6000", station.energyWith(11, 1), 0);
        Checks.due("setting(1)", station.setting(1), 200);
    }

    private static void energyMinutes() {
        AirStation station = Edges.still(500, 500, 500, 500, 500);
        station.set(6, 3000);
        station.set(0, 12000);
        Checks.due("energyWith(10, 1)", station.energyWith(10, 1), 25000);
        Checks.due("energyWith(10, 2)", station.energyWith(10, 2), 50000);
        Checks.due("energyWith(10, 599)", station.energyWith(10, 599), 599 * 25000);
        Checks.due("energyWith(10, 600)", station.energyWith(10, 600), 600 * 25000);
        station.pass(600);
        Checks.due("that of the minutes alone", station.energyWith(10, 1), 25000);
    }

    private static void energyOfNone() {
        Checks.due("of none", Edges.still().energyWith(10, 600), 0);
        AirStation station = Edges.still(100);
        station.trip(0);
        Checks.due("tripped", station.energyWith(10, 600), 0);
        AirStation unloaded = Edges.unloadedOne();
        Checks.due("four unloaded minutes", unloaded.energyWith(200, 4), 1200);
        Checks.due("off in the fifth one", unloaded.energyWith(200, 5), 1200);
        Checks.due("the least", Edges.still(10).energyWith(200, 1), 100);
    }

    private static void energyOutOfRange() {
        AirStation station = Edges.still(100);
        Edges.dueRefused("energyWith(step, 1)", station, step -> station.energyWith(step, 1), ARGUMENT, 9, 501, 0, -1,
                LEAST_INT, GREATEST_INT);
        Edges.dueRefused("energyWith(200, minutes)", station, minutes -> station.energyWith(200, minutes), ARGUMENT, 0,
                601, -1, LEAST_INT, GREATEST_INT);
        Edges.dueRefused("energyWith(9, minutes)", station, minutes -> station.energyWith(9, minutes), ARGUMENT, 0,
                601);
    }

    // ---- bestOrder

    private static void runBestOrder(Edges edges) {
        edges.under("Promise 21");
        edges.of("Finds the order of all compressors in which, with nothing else done", QuestionEdges::anyOrderIsFound);
        edges.of("the least demand is unmet in some minutes, and of these the one with the least energy.",
                QuestionEdges::unmetAheadOfEnergy);
        edges.of("(The order is set in place of the present one; a rotation in these minutes still takes place.)",
                QuestionEdges::rotationInTheseMinutes);
        edges.of("`minutes`: 1 to 30", QuestionEdges::bestOrderEnds);
        edges.of("`stage`: from 0", QuestionEdges::bestOrderStages);
        edges.of("of several orders the first one, compressors compared from stage 0 on, the lower number first.",
                QuestionEdges::firstOfSeveralOrders);
        edges.of("Throws `IllegalArgumentException` if minutes is out of range", QuestionEdges::bestOrderOutOfRange);
        edges.of("Throws `IndexOutOfBoundsException` if there are not so many stages", QuestionEdges::bestOrderOfNone);
    }

    /** 1000 liters at 1000 millibars are below 1100, the limit of stage 0, and not below 900, that of stage 1. */
    private static AirStation little(int... capacities) {
        AirStation station = Edges.holding(1000);
        station.set(0, 1300);
        for (int capacity : capacities) {
            station.addCompressor(capacity);
        }
        return station;
    }

    private static void dueBest(String told, AirStation station, int minutes, int... numbers) {
        long before = station.digest();
        for (int stage = 0; stage < numbers.length; stage++) {
            Checks.due(told + ": bestOrder(" + minutes + ", " + stage + ")", station.bestOrder(minutes, stage),
                    numbers[stage]);
        }
        Checks.due(told + ": the digest", station.digest(), before);
    }

    /**
     * The limits are 6001, 5501, 5001, 4501 and 4001: in each order one compressor more loads in each of five minutes,
     * so that the least energy is that of the smallest first; and all air is used up long before 30 minutes, so that
     * the least demand is unmet with the largest first.
     */
    private static void anyOrderIsFound() {
        for (int rank = 0; rank < 120; rank++) {
            AirStation station = Edges.still();
            station.set(0, 6501);
            station.set(1, 500);
            station.set(6, 600);
            int[] upwards = new int[5];
            int[] downwards = new int[5];
            for (int number = 0; number < 5; number++) {
                int size = sizeOf(rank, number);
                station.addCompressor(10 + 10 * size);
                upwards[size] = number;
                downwards[4 - size] = number;
            }
            dueBest("the smallest first, " + rank, station, 5, upwards);
            dueBest("the largest first, " + rank, station, 30, downwards);
        }
    }

    /** The size, 0 to 4, of a compressor in one of the 120 rows in which five sizes can stand. */
    private static int sizeOf(int rank, int number) {
        List<Integer> sizes = new ArrayList<>(List.of(0, 1, 2, 3, 4));
        int left = rank;
        for (int place = 0; place < number; place++) {
            sizes.remove(left % sizes.size());
            left = left / (sizes.size() + 1);
        }
        return sizes.get(left % sizes.size());
    }

    private static void unmetAheadOfEnergy() {
        AirStation station = little(300, 100);
        station.set(6, 1100);
        dueBest("all is met in both orders", station, 1, 1, 0);
        station.set(6, 1101);
        dueBest("one liter is unmet in one of them", station, 1, 0, 1);
        station.set(6, 1300);
        dueBest("200 liters are unmet in one of them", station, 1, 0, 1);
        station.set(6, 1301);
        dueBest("one liter is unmet in the better one", station, 1, 0, 1);
        AirStation other = little(100, 300);
        other.set(6, 1100);
        dueBest("all is met in both orders", other, 1, 0, 1);
        other.set(6, 1101);
        dueBest("one liter is unmet in one of them", other, 1, 1, 0);
    }

    private static void rotationInTheseMinutes() {
        AirStation station = little(300, 100);
        station.set(6, 1100);
        station.leakTest(7);
        station.set(7, 10);
        Checks.due("minutes since", station.value(8), 9);
        dueBest("the rotation is due in the second minute", station, 1, 1, 0);
        station.leakTest(1);
        Checks.due("minutes since", station.value(8), 10);
        dueBest("the rotation is due in the first minute", station, 1, 0, 1);
        Checks.due("no rotation took place", station.value(9), 0);
        AirStation turned = Edges.firstAlone(1, 20);
        turned.rotate();
        // compressor 0 stays loaded in both orders, and 1 loads at stage 0 alone
        dueBest("the present order costs more", turned, 1, 0, 1);
        Edges.dueOrder("the present order stays", turned, 1, 0);
    }

    private static void bestOrderEnds() {
        AirStation station = little(300, 100);
        dueBest("one minute", station, 1, 1, 0);
        // both are loaded from the second minute on: 12700 - 30 * 424 = -20 with 1 at stage 0, 200 more with 0 there
        station.set(6, 424);
        dueBest("29 minutes, in which all is met", station, 29, 1, 0);
        dueBest("30 minutes, the last one of which is not", station, 30, 0, 1);
        station.set(6, 423);
        dueBest("30 minutes, in which all is met", station, 30, 1, 0);
        Edges.dueRefused("bestOrder(minutes, 0)", station, minutes -> station.bestOrder(minutes, 0), ARGUMENT, 0, 31);
    }

    private static void bestOrderStages() {
        AirStation station = little(500, 400, 300, 200, 100);
        station.set(6, 1100);
        dueBest("of five", station, 1, 4, 0, 1, 2, 3);
        Edges.dueRefused("bestOrder(1, stage)", station, stage -> station.bestOrder(1, stage), INDEX, -1, 5);
        dueBest("of one", little(10), 1, 0);
    }

    private static void firstOfSeveralOrders() {
        AirStation alike = little(100, 100, 100, 100, 100);
        dueBest("all are as good", alike, 1, 0, 1, 2, 3, 4);
        AirStation station = little(300, 100, 200, 100);
        dueBest("two are as good at stage 0", station, 1, 1, 0, 2, 3);
        station.trip(3);
        dueBest("a tripped one costs nothing", station, 1, 3, 0, 1, 2);
        station.trip(0);
        dueBest("two tripped ones cost nothing", station, 1, 0, 1, 2, 3);
        for (int number = 1; number < 3; number++) {
            station.trip(number);
        }
        dueBest("all are tripped", station, 30, 0, 1, 2, 3);
        AirStation turned = Edges.firstAlone(1, 20, 30, 40, 50);
        turned.rotate();
        for (int number = 0; number < 5; number++) {
            turned.trip(number);
        }
        Edges.dueOrder("the present order", turned, 1, 2, 3, 4, 0);
        dueBest("the present order is no better than the others", turned, 30, 0, 1, 2, 3, 4);
    }

    private static void bestOrderOutOfRange() {
        AirStation station = Edges.still(10, 20);
        Edges.dueRefused("bestOrder(minutes, 0)", station, minutes -> station.bestOrder(minutes, 0), ARGUMENT, 0, 31,
                -1, LEAST_INT, GREATEST_INT);
        Edges.dueRefused("bestOrder(minutes, 2)", station, minutes -> station.bestOrder(minutes, 2), ARGUMENT, 0, 31);
        Checks.due("bestOrder(1, 1)", station.bestOrder(1, 1), 1);
        Checks.due("bestOrder(30, 1)", station.bestOrder(30, 1) + station.bestOrder(30, 0), 1);
    }

    private static void bestOrderOfNone() {
        AirStation station = Edges.still();
        Edges.dueRefused("bestOrder(1, stage) of none", station, stage -> station.bestOrder(1, stage), INDEX, 0, -1,
                LEAST_INT, GREATEST_INT);
        for (int number = 0; number < 5; number++) {
            station.addCompressor(10);
            Edges.dueRefused("bestOrder(30, stage)", station, stage -> station.bestOrder(30, stage), INDEX, -1,
                    number + 1);
        }
    }

    // ---- loadedShare

    private static void runLoadedShare(Edges edges) {
        edges.under("Promise 22");
        edges.of("Returns the share of the energy that went into loaded minutes.", QuestionEdges::shareOfBoth);
        edges.of("Returns 10 * (the sum of capacity * loaded minutes over all compressors), converted to double, "
                + "divided by the energy, converted to double", QuestionEdges::shareBeyondInt);
        edges.of("0.0 if this is 0.", QuestionEdges::shareOfNoEnergy);
    }

    private static void shareOfBoth() {
        AirStation station = Edges.loadedOne();
        Checks.dueDouble("all of it", station.loadedShare(), 1.0);
        station.leakTest(1);
        Checks.dueDouble("1000 of 1300", station.loadedShare(), 1000.0 / 1300.0);
        station.leakTest(59);
        Checks.dueDouble("1000 of 19000", station.loadedShare(), 1000.0 / 19000.0);
        station.trip(0);
        Checks.dueDouble("tripped", station.loadedShare(), 1000.0 / 19000.0);
        station.addCompressor(500);
        station.set(0, 12000);
        station.pass(1);
        Checks.dueDouble("6000 of 24000", station.loadedShare(), 0.25);
    }

    private static void shareBeyondInt() {
        AirStation station = Edges.still(500, 500, 500, 500, 500);
        station.set(6, 3000);
        station.set(0, 12000);
        for (int turn = 0; turn < 144; turn++) {
            station.pass(600);
        }
        Checks.dueDouble("2160000000 of as much", station.loadedShare(), 1.0);
        station.leakTest(1);
        Checks.dueDouble("2160000000 of 7500 more", station.loadedShare(), 2160000000.0 / 2160007500.0);
    }

    private static void shareOfNoEnergy() {
        Checks.dueDouble("new", new AirStation().loadedShare(), 0.0);
        AirStation station = Edges.still(100);
        station.trip(0);
        station.pass(600);
        Checks.dueDouble("of a tripped one", station.loadedShare(), 0.0);
        AirStation undone = Edges.loadedOne();
        undone.undo();
        Checks.dueDouble("undone", undone.loadedShare(), 0.0);
    }
}
