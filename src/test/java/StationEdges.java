/** The boundary cases of promises 1 to 9. */
final class StationEdges {
    private static final Class<?> ARGUMENT = IllegalArgumentException.class;
    private static final Class<?> STATE = IllegalStateException.class;
    private static final Class<?> INDEX = IndexOutOfBoundsException.class;
    private static final int LEAST_INT = Integer.MIN_VALUE;
    private static final int GREATEST_INT = Integer.MAX_VALUE;
    private static final int[] LEAST = {1000, 10, 2000, 1, 0, 0, 0, 10};
    private static final int[] GREATEST = {12000, 500, 16000, 60, 30, 50, 3000, 5000};
    private static final int[] FIRST = {6500, 200, 10000, 5, 3, 2, 100, 480};

    private StationEdges() {
    }

    static void run(Edges edges) {
        runNewAndVolume(edges);
        runSet(edges);
        runAdd(edges);
        runTrip(edges);
        runClear(edges);
        runRotate(edges);
        runPass(edges);
        runLeakTest(edges);
    }

    /** The call can be undone: everything is as it was, and so many states are saved as before it. */
    private static void dueUndoable(AirStation station, int savedBefore, Edges.CallWith call, int number) {
        long before = station.digest();
        call.make(number);
        Checks.due("undo()", station.undo(), savedBefore);
        Checks.due("the digest undone", station.digest(), before);
    }

    // ---- a new object, setVolume

    private static void runNewAndVolume(Edges edges) {
        edges.under("Promise 1");
        edges.of("Creates a station without compressors, at the time 0.", StationEdges::newIsEmpty);
        edges.under("Promise 2");
        edges.of("Sets the volume of the receiver; the air stays.", StationEdges::airStays);
        edges.of("Undoable.", StationEdges::volumeUndone);
        edges.of("`volume`: 100 to 5000", StationEdges::volumeRange);
        edges.of("Returns the pressure then.", StationEdges::volumeReturnsPressure);
        edges.of("Throws `IllegalArgumentException` if volume is out of range", StationEdges::volumeOutOfRange);
        edges.of("Throws `IllegalStateException` if the pressure would be above the relief pressure",
                StationEdges::volumeTooSmallForTheAir);
    }

    private static void newIsEmpty() {
        AirStation station = new AirStation();
        Checks.dueValues("new", station, 1000, 6000, 6000, 0, 0, 0, 0, 0, 0, 0, 0, 0);
        Checks.dueBooked("new", station, 0, 0, 0, 0, 0, 0);
        for (int what = 0; what < 8; what++) {
            Checks.due("setting(" + what + ")", station.setting(what), FIRST[what]);
        }
        Edges.dueRefused("compressor", station, number -> station.compressor(number, 0), INDEX, -1, 0, 1);
        Edges.dueRefused("atStage", station, station::atStage, INDEX, -1, 0, 1);
        Edges.dueRefused("result", station, station::result, INDEX, -1, 0, 1);
        Checks.dueIllegalState("undo()", station, station::undo);
        Checks.due("carryOut() of no text", new AirStation().carryOut(), 0);
        Checks.due("clearText() of no text", station.clearText(), 0);
        Checks.due("two new ones are alike", station.digest(), new AirStation().digest());
    }

    private static void airStays() {
        AirStation station = new AirStation();
        int[] volumes = {600, 5000, 1000, 999};
        for (int volume : volumes) {
            station.setVolume(volume);
            Checks.due("the volume", station.value(0), volume);
            Checks.due("the air in " + volume, station.value(1), 6000);
            Checks.dueBooked("nothing is booked", station, 0, 0, 0, 0, 0, 0);
        }
    }

    private static void volumeUndone() {
        AirStation station = new AirStation();
        dueUndoable(station, 0, station::setVolume, 5000);
        dueUndoable(station, 0, station::setVolume, 1000);
        dueUndoable(station, 0, station::setVolume, 600);
    }

    private static void volumeRange() {
        AirStation station = Edges.holding(0);
        Checks.due("setVolume(100)", station.setVolume(100), 0);
        Checks.due("value(0)", station.value(0), 100);
        Checks.due("setVolume(101)", station.setVolume(101), 0);
        Checks.due("setVolume(4999)", station.setVolume(4999), 0);
        Checks.due("setVolume(5000)", station.setVolume(5000), 0);
        Checks.due("value(0)", station.value(0), 5000);
    }

    private static void volumeReturnsPressure() {
        AirStation station = Edges.holding(5);
        int[] volumes = {5000, 4999, 2501, 2500, 100};
        int[] pressures = {1, 1, 1, 2, 50};
        for (int turn = 0; turn < 5; turn++) {
            Checks.due("setVolume(" + volumes[turn] + ")", station.setVolume(volumes[turn]), pressures[turn]);
            Checks.due("value(2)", station.value(2), pressures[turn]);
        }
    }

    private static void volumeOutOfRange() {
        AirStation station = Edges.holding(0);
        Edges.dueRefused("setVolume", station, station::setVolume, ARGUMENT, 99, 5001, 0, -1, -1000, LEAST_INT,
                GREATEST_INT);
        Checks.due("value(0)", station.value(0), 1000);
    }

    private static void volumeTooSmallForTheAir() {
        AirStation station = new AirStation();
        Checks.due("at the relief pressure", station.setVolume(600), 10000);
        Edges.dueRefused("setVolume", station, station::setVolume, STATE, 599, 375, 100);
        station.set(2, 10016);
        Checks.due("6000000 / 599 = 10016.7", station.setVolume(599), 10016);
        Edges.dueRefused("setVolume", station, station::setVolume, STATE, 598);
        station.set(2, 10015);
        Edges.dueRefused("setVolume to what it is", station, station::setVolume, STATE, 599);
        station.set(2, 2000);
        Edges.dueRefused("setVolume to more", station, station::setVolume, STATE, 2998);
        Checks.due("6000000 / 2999 = 2000.7", station.setVolume(2999), 2000);
        Checks.due("no air is too much for none", Edges.holding(0).setVolume(100), 0);
    }

    // ---- set

    private static void runSet(Edges edges) {
        edges.under("Promise 3");
        edges.of("Sets a setting.", StationEdges::setSetsOne);
        edges.of("Undoable.", StationEdges::setUndone);
        edges.of("`what`: 0 to 7, as told above", StationEdges::setFirstAndLast);
        edges.of("`value`: a value in its range", StationEdges::setEnds);
        edges.of("Returns the previous value.", StationEdges::setReturnsPrevious);
        edges.of("Throws `IllegalArgumentException` if what or value is out of range", StationEdges::setOutOfRange);
    }

    private static void setSetsOne() {
        for (int what = 0; what < 8; what++) {
            AirStation station = new AirStation();
            station.set(what, LEAST[what]);
            for (int other = 0; other < 8; other++) {
                Checks.due("setting(" + other + ") behind set(" + what + ", ..)", station.setting(other),
                        other == what ? LEAST[what] : FIRST[other]);
            }
            Checks.dueValues("nothing else behind set(" + what + ", ..)", station, 1000, 6000, 6000, 0, 0, 0, 0, 0, 0,
                    0, 0, 0);
        }
    }

    private static void setUndone() {
        for (int what = 0; what < 8; what++) {
            AirStation station = new AirStation();
            int setting = what;
            dueUndoable(station, 0, value -> station.set(setting, value), LEAST[what]);
            dueUndoable(station, 0, value -> station.set(setting, value), FIRST[what]);
            dueUndoable(station, 0, value -> station.set(setting, value), GREATEST[what]);
        }
    }

    private static void setFirstAndLast() {
        AirStation station = new AirStation();
        Checks.due("set(0, 7000)", station.set(0, 7000), 6500);
        Checks.due("setting(0)", station.setting(0), 7000);
        Checks.due("set(7, 500)", station.set(7, 500), 480);
        Checks.due("setting(7)", station.setting(7), 500);
        Edges.dueRefused("set(what, 500)", station, what -> station.set(what, 500), ARGUMENT, -1, 8);
    }

    private static void setEnds() {
        for (int what = 0; what < 8; what++) {
            AirStation station = new AirStation();
            station.set(what, LEAST[what]);
            Checks.due("the least of " + what, station.setting(what), LEAST[what]);
            station.set(what, LEAST[what] + 1);
            Checks.due("one more of " + what, station.setting(what), LEAST[what] + 1);
            station.set(what, GREATEST[what] - 1);
            Checks.due("one less of " + what, station.setting(what), GREATEST[what] - 1);
            station.set(what, GREATEST[what]);
            Checks.due("the greatest of " + what, station.setting(what), GREATEST[what]);
        }
    }

    private static void setReturnsPrevious() {
        for (int what = 0; what < 8; what++) {
            AirStation station = new AirStation();
            Checks.due("the first value of " + what, station.set(what, FIRST[what]), FIRST[what]);
            Checks.due("the value that it has of " + what, station.set(what, LEAST[what]), FIRST[what]);
            Checks.due("the least of " + what, station.set(what, GREATEST[what]), LEAST[what]);
            Checks.due("the greatest of " + what, station.set(what, FIRST[what]), GREATEST[what]);
        }
    }

    private static void setOutOfRange() {
        AirStation station = new AirStation();
        Edges.dueRefused("set(what, 100)", station, what -> station.set(what, 100), ARGUMENT, -1, 8, LEAST_INT,
                GREATEST_INT);
        Edges.dueRefused("set(what, -1)", station, what -> station.set(what, -1), ARGUMENT, -1, 8, 0, 7);
        for (int what = 0; what < 8; what++) {
            int setting = what;
            AirStation other = new AirStation();
            Edges.dueRefused("set(" + what + ", value)", other, value -> other.set(setting, value), ARGUMENT,
                    LEAST[what] - 1, GREATEST[what] + 1, LEAST_INT, GREATEST_INT);
            Checks.due("setting(" + what + ")", other.setting(what), FIRST[what]);
        }
    }

    // ---- addCompressor

    private static void runAdd(Edges edges) {
        edges.under("Promise 4");
        edges.of("Adds a compressor, which is off.", StationEdges::addedIsOff);
        edges.of("Undoable.", StationEdges::addUndone);
        edges.of("`capacity`: 10 to 500", StationEdges::capacityEnds);
        edges.of("Returns the number of the compressor.", StationEdges::addReturnsNumber);
        edges.of("Throws `IllegalArgumentException` if capacity is out of range", StationEdges::capacityOutOfRange);
        edges.of("Throws `IllegalStateException` if there are 5 compressors", StationEdges::sixthIsRefused);
    }

    private static void addedIsOff() {
        AirStation station = Edges.still();
        station.set(0, 12000);
        station.addCompressor(50);
        Checks.dueCompressor("far below its limit", station, 0, 50, 0, 0, 0, 0, 0, 0, 0, 11800, 12200);
        Checks.due("loaded", station.value(4), 0);
        station.pass(1);
        station.addCompressor(60);
        Checks.dueCompressor("beside a loaded one", station, 1, 60, 0, 1, 0, 0, 0, 0, 0, 11600, 12200);
        Checks.due("loaded", station.value(4), 1);
    }

    private static void addUndone() {
        AirStation station = new AirStation();
        dueUndoable(station, 0, station::addCompressor, 10);
        Checks.due("value(3)", station.value(3), 0);
        station.addCompressor(10);
        station.addCompressor(20);
        station.addCompressor(30);
        dueUndoable(station, 3, station::addCompressor, 500);
        Checks.due("value(3)", station.value(3), 3);
        Edges.dueRefused("compressor", station, number -> station.compressor(number, 0), INDEX, 3);
    }

    private static void capacityEnds() {
        int[] capacities = {10, 11, 499, 500};
        AirStation station = new AirStation();
        for (int number = 0; number < 4; number++) {
            Checks.due("addCompressor", station.addCompressor(capacities[number]), number);
            Checks.due("its capacity", station.compressor(number, 0), capacities[number]);
        }
    }

    private static void addReturnsNumber() {
        AirStation station = Edges.firstAlone(1, 20);
        station.rotate();
        Checks.due("the third one", station.addCompressor(30), 2);
        Checks.due("the fourth one", station.addCompressor(40), 3);
        station.undo();
        Checks.due("the fourth one again", station.addCompressor(50), 3);
        Checks.due("the fifth one", station.addCompressor(50), 4);
        Checks.due("the very first one", new AirStation().addCompressor(500), 0);
    }

    private static void capacityOutOfRange() {
        AirStation station = new AirStation();
        Edges.dueRefused("addCompressor", station, station::addCompressor, ARGUMENT, 9, 501, 0, -1, -10, LEAST_INT,
                GREATEST_INT);
        Checks.due("value(3)", station.value(3), 0);
    }

    private static void sixthIsRefused() {
        AirStation station = Edges.still(10, 20, 30, 40);
        Checks.due("the fifth one", station.addCompressor(50), 4);
        Edges.dueRefused("addCompressor", station, station::addCompressor, STATE, 10, 500);
        station.trip(4);
        Edges.dueRefused("addCompressor beside a tripped one", station, station::addCompressor, STATE, 10);
        station.undo();
        station.undo();
        Checks.due("a fifth one again", station.addCompressor(60), 4);
    }

    // ---- trip and clear

    private static void runTrip(Edges edges) {
        edges.under("Promise 5");
        edges.of("Trips a compressor.", StationEdges::tripTrips);
        edges.of("Undoable.", StationEdges::tripUndone);
        edges.of("`compressor`: number of a compressor", StationEdges::tripFirstAndLast);
        edges.of("Returns 0 if it was off, 1 loaded, 2 unloaded.", StationEdges::tripReturnsState);
        edges.of("Throws `IndexOutOfBoundsException` if there is no such compressor", StationEdges::tripOfNone);
        edges.of("Throws `IllegalStateException` if it is tripped", StationEdges::tripOfTripped);
    }

    private static void tripTrips() {
        AirStation station = Edges.still(10, 20);
        station.trip(1);
        Checks.dueCompressor("tripped", station, 1, 20, 3, 1, 0, 0, 0, 0, 0);
        Checks.dueCompressor("the other one", station, 0, 10, 0, 0, 0, 0, 0, 0, 0);
        Checks.due("tripped ones", station.value(6), 1);
        AirStation unloaded = Edges.unloadedOne();
        unloaded.pass(2);
        unloaded.trip(0);
        Checks.dueCompressor("it has no timer", unloaded, 0, 100, 3, 0, 1, 3, 0, 0, 1);
        unloaded.clear(0);
        unloaded.trip(0);
        Checks.dueCompressor("it has no rest", unloaded, 0, 100, 3, 0, 1, 3, 0, 0, 1);
    }

    private static void tripUndone() {
        AirStation station = new AirStation();
        station.addCompressor(100);
        dueUndoable(station, 1, station::trip, 0);
        station.pass(1);
        dueUndoable(station, 2, station::trip, 0);
        station.leakTest(1);
        dueUndoable(station, 3, station::trip, 0);
        Checks.due("unloaded again", station.compressor(0, 1), 2);
    }

    private static void tripFirstAndLast() {
        AirStation station = Edges.still(10, 20, 30, 40, 50);
        Checks.due("trip(0)", station.trip(0), 0);
        Checks.due("trip(4)", station.trip(4), 0);
        Checks.due("tripped ones", station.value(6), 2);
        Checks.due("the state of 0", station.compressor(0, 1), 3);
        Checks.due("the state of 4", station.compressor(4, 1), 3);
    }

    private static void tripReturnsState() {
        Checks.due("off", Edges.still(10).trip(0), 0);
        Checks.due("loaded", Edges.loadedOne().trip(0), 1);
        Checks.due("unloaded", Edges.unloadedOne().trip(0), 2);
        AirStation resting = Edges.still(10);
        resting.trip(0);
        resting.clear(0);
        Checks.due("at rest", resting.trip(0), 0);
        AirStation stopped = Edges.unloadedOne();
        stopped.pass(5);
        Checks.due("off by its timer", stopped.trip(0), 0);
        AirStation tested = Edges.loadedOne();
        tested.leakTest(1);
        Checks.due("unloaded by a test", tested.trip(0), 2);
    }

    private static void tripOfNone() {
        AirStation station = Edges.still();
        Edges.dueRefused("trip of none", station, station::trip, INDEX, 0, -1, LEAST_INT, GREATEST_INT);
        for (int number = 0; number < 5; number++) {
            station.addCompressor(10);
            Edges.dueRefused("trip", station, station::trip, INDEX, -1, number + 1);
            Checks.due("trip of the last one", station.trip(number), 0);
            station.undo();
        }
        station.undo();
        Edges.dueRefused("trip of one that is taken back", station, station::trip, INDEX, 4);
    }

    private static void tripOfTripped() {
        AirStation station = Edges.still(10, 20);
        Checks.due("trip(1)", station.trip(1), 0);
        Edges.dueRefused("trip", station, station::trip, STATE, 1);
        Checks.due("trip(0)", station.trip(0), 0);
        Edges.dueRefused("trip", station, station::trip, STATE, 0, 1);
        station.clear(1);
        Checks.due("trip(1) of a cleared one", station.trip(1), 0);
        station.pass(600);
        Edges.dueRefused("trip much later", station, station::trip, STATE, 0, 1);
    }

    private static void runClear(Edges edges) {
        edges.under("Promise 6");
        edges.of("Clears a tripped compressor: it is off, with the rest as its rest to go.", StationEdges::clearRests);
        edges.of("Undoable.", StationEdges::clearUndone);
        edges.of("`compressor`: number of a compressor", StationEdges::clearFirstAndLast);
        edges.of("Returns its stage.", StationEdges::clearReturnsStage);
        edges.of("Throws `IndexOutOfBoundsException` if there is no such compressor", StationEdges::clearOfNone);
        edges.of("Throws `IllegalStateException` if it is not tripped", StationEdges::clearOfOthers);
    }

    private static void clearRests() {
        int[] rests = {0, 1, 3, 30};
        for (int rest : rests) {
            AirStation station = Edges.loadedOne();
            station.trip(0);
            station.set(4, rest);
            station.clear(0);
            Checks.dueCompressor("cleared", station, 0, 100, 0, 0, 1, 0, 0, rest, 1);
            Checks.due("what it does", station.next(0), rest == 0 ? 2 : 1);
            station.set(4, 7);
            Checks.due("a later setting is not its", station.compressor(0, 6), rest);
        }
    }

    private static void clearUndone() {
        AirStation station = new AirStation();
        station.addCompressor(100);
        station.trip(0);
        dueUndoable(station, 2, station::clear, 0);
        Checks.due("tripped again", station.compressor(0, 1), 3);
    }

    private static void clearFirstAndLast() {
        AirStation station = Edges.still(10, 20, 30, 40, 50);
        station.trip(0);
        station.trip(4);
        Checks.due("clear(0)", station.clear(0), 0);
        Checks.due("clear(4)", station.clear(4), 4);
        Checks.due("tripped ones", station.value(6), 0);
    }

    private static void clearReturnsStage() {
        AirStation station = Edges.firstAlone(1, 20, 30);
        station.rotate();
        for (int number = 0; number < 3; number++) {
            station.trip(number);
        }
        Checks.due("clear(1)", station.clear(1), 0);
        Checks.due("clear(2)", station.clear(2), 1);
        Checks.due("clear(0)", station.clear(0), 2);
    }

    private static void clearOfNone() {
        AirStation station = Edges.still();
        Edges.dueRefused("clear of none", station, station::clear, INDEX, 0, -1, LEAST_INT, GREATEST_INT);
        for (int number = 0; number < 5; number++) {
            station.addCompressor(10);
            station.trip(number);
            Edges.dueRefused("clear", station, station::clear, INDEX, -1, number + 1);
        }
        Checks.due("clear of the last one", station.clear(4), 4);
    }

    private static void clearOfOthers() {
        AirStation off = Edges.still(10, 20);
        Edges.dueRefused("clear of what is off", off, off::clear, STATE, 0, 1);
        off.trip(1);
        Edges.dueRefused("clear beside a tripped one", off, off::clear, STATE, 0);
        Checks.due("clear(1)", off.clear(1), 1);
        Edges.dueRefused("clear of what is cleared", off, off::clear, STATE, 1);
        AirStation loaded = Edges.loadedOne();
        Edges.dueRefused("clear of what is loaded", loaded, loaded::clear, STATE, 0);
        AirStation unloaded = Edges.unloadedOne();
        Edges.dueRefused("clear of what is unloaded", unloaded, unloaded::clear, STATE, 0);
    }

    // ---- rotate

    private static void runRotate(Edges edges) {
        edges.under("Promise 7");
        edges.of("Rotates now, as in step 1, whatever the minutes are.", StationEdges::rotateAtAnyMinute);
        edges.of("Undoable.", StationEdges::rotateUndone);
        edges.of("Returns how many compressors have another stage then.", StationEdges::rotateReturnsMoved);
    }

    private static void rotateAtAnyMinute() {
        AirStation fresh = new AirStation();
        fresh.rotate();
        Checks.due("at the time 0", fresh.value(9), 1);
        Checks.due("no minute has passed", fresh.value(7), 0);
        AirStation station = Edges.firstAlone(1, 20);
        station.rotate();
        Edges.dueOrder("behind one minute", station, 1, 0);
        Checks.due("minutes since", station.value(8), 0);
        station.rotate();
        Edges.dueOrder("in the same minute", station, 1, 0);
        Checks.due("rotations", station.value(9), 2);
        AirStation late = Edges.firstAlone(10, 20);
        late.set(7, 10);
        late.rotate();
        Checks.due("when one is due", late.value(9), 1);
        late.pass(1);
        Checks.due("none is due any more", late.value(9), 1);
        Checks.due("minutes since", late.value(8), 1);
    }

    private static void rotateUndone() {
        AirStation none = new AirStation();
        dueUndoable(none, 0, number -> none.rotate(), 0);
        AirStation station = new AirStation();
        station.addCompressor(10);
        station.pass(2);
        station.addCompressor(20);
        dueUndoable(station, 3, number -> station.rotate(), 0);
        Edges.dueOrder("undone", station, 0, 1);
    }

    private static void rotateReturnsMoved() {
        Checks.due("of none", new AirStation().rotate(), 0);
        Checks.due("of one", Edges.loadedOne().rotate(), 0);
        Checks.due("of five like ones", Edges.still(10, 20, 30, 40, 50).rotate(), 0);
        Checks.due("of two", Edges.firstAlone(1, 20).rotate(), 2);
        AirStation five = Edges.firstAlone(1, 20, 30, 40, 50);
        Checks.due("all of five", five.rotate(), 5);
        Checks.due("all of five stay", five.rotate(), 0);
        AirStation last = Edges.still(10, 20, 30);
        last.set(0, 12000);
        last.trip(0);
        last.trip(2);
        last.pass(1);
        // loaded minutes: 0, 1, 0
        Checks.due("the first one stays", last.rotate(), 2);
    }

    // ---- pass and leakTest

    private static void runPass(Edges edges) {
        edges.under("Promise 8");
        edges.of("Lets minutes pass.", StationEdges::passIsManyMinutes);
        edges.of("Undoable.", StationEdges::passUndone);
        edges.of("`minutes`: 1 to 600", StationEdges::passEnds);
        edges.of("Returns the pressure then.", StationEdges::passReturnsPressure);
        edges.of("Throws `IllegalArgumentException` if minutes is out of range", StationEdges::passOutOfRange);
        edges.of("Throws `IllegalStateException` if the time would be greater than 100000", StationEdges::passTooLate);
    }

    private static void passIsManyMinutes() {
        AirStation station = new AirStation();
        station.addCompressor(150);
        AirStation other = new AirStation();
        other.addCompressor(150);
        station.pass(100);
        for (int minute = 0; minute < 100; minute++) {
            other.pass(1);
        }
        station.pass(1);
        station.pass(1);
        station.pass(1);
        Checks.dueText("the value of 3 more minutes", String.valueOf(station.value(2)),
                String.valueOf(other.pass(3)));
        for (int what = 0; what < 6; what++) {
            Checks.due("booked(" + what + ")", station.booked(what), other.booked(what));
        }
        for (int what = 0; what < 10; what++) {
            Checks.due("compressor(0, " + what + ")", station.compressor(0, what), other.compressor(0, what));
        }
    }

    private static void passUndone() {
        AirStation station = new AirStation();
        station.addCompressor(150);
        dueUndoable(station, 1, station::pass, 1);
        dueUndoable(station, 1, station::pass, 600);
    }

    private static void passEnds() {
        AirStation station = Edges.still();
        station.pass(1);
        Checks.due("the time", station.value(7), 1);
        station.pass(2);
        Checks.due("the time", station.value(7), 3);
        station.pass(599);
        Checks.due("the time", station.value(7), 602);
        station.pass(600);
        Checks.due("the time", station.value(7), 1202);
    }

    private static void passReturnsPressure() {
        AirStation station = Edges.still();
        station.setVolume(997);
        Checks.due("rounded down", station.pass(1), 6018);
        station.set(6, 3000);
        Checks.due("pass(1)", station.pass(1), 3009);
        Checks.due("no air", station.pass(1), 0);
    }

    private static void passOutOfRange() {
        AirStation station = Edges.still(10);
        Edges.dueRefused("pass", station, station::pass, ARGUMENT, 0, 601, -1, LEAST_INT, GREATEST_INT);
        Checks.due("the time", station.value(7), 0);
    }

    private static void passTooLate() {
        Checks.due("600 to the latest time", Edges.aged(99400).pass(600), 6000);
        AirStation station = Edges.aged(99401);
        Edges.dueRefused("pass", station, station::pass, STATE, 600);
        Checks.due("599 to the latest time", station.pass(599), 6000);
        Checks.due("the time", station.value(7), 100000);
        Edges.dueRefused("pass", station, station::pass, STATE, 1, 2, 600);
        station.undo();
        Checks.due("the time undone", station.value(7), 99401);
        Checks.due("598", station.pass(598), 6000);
        Edges.dueRefused("pass", station, station::pass, STATE, 2, 600);
        Checks.due("1 to the latest time", station.pass(1), 6000);
        Checks.due("the time", station.value(7), 100000);
    }

    private static void runLeakTest(Edges edges) {
        edges.under("Promise 9");
        edges.of("Makes a leak test.", StationEdges::testIsMade);
        edges.of("Undoable.", StationEdges::testUndone);
        edges.of("`minutes`: 1 to 60", StationEdges::testEnds);
        edges.of("Returns its result.", StationEdges::testReturnsResult);
        edges.of("Throws `IllegalArgumentException` if minutes is out of range", StationEdges::testOutOfRange);
        edges.of("Throws `IllegalStateException` if the time would be greater than 100000", StationEdges::testTooLate);
    }

    private static void testIsMade() {
        AirStation station = new AirStation();
        Checks.due("tests kept", station.value(11), 0);
        station.leakTest(1);
        Checks.dueValues("behind one minute", station, 1000, 5988, 5988, 0, 0, 0, 0, 1, 1, 0, 0, 1);
        Checks.dueBooked("behind one minute", station, 0, 12, 0, 0, 0, 0);
    }

    private static void testUndone() {
        AirStation station = new AirStation();
        station.addCompressor(150);
        station.pass(1);
        dueUndoable(station, 2, station::leakTest, 1);
        dueUndoable(station, 2, station::leakTest, 60);
        Checks.due("tests kept", station.value(11), 0);
        Checks.due("loaded again", station.compressor(0, 1), 1);
    }

    private static void testEnds() {
        AirStation station = Edges.still();
        station.leakTest(1);
        Checks.due("the time", station.value(7), 1);
        station.leakTest(2);
        Checks.due("the time", station.value(7), 3);
        station.leakTest(59);
        Checks.due("the time", station.value(7), 62);
        station.leakTest(60);
        Checks.due("the time", station.value(7), 122);
    }

    private static void testReturnsResult() {
        AirStation station = new AirStation();
        Checks.due("6000 * 2 / 1000", station.leakTest(1), 12);
        Checks.due("11 and 11", station.leakTest(2), 22);
        Checks.due("result(0)", station.result(0), 22);
        Checks.due("result(1)", station.result(1), 12);
        Checks.due("of 499", smallLeak(499), 0);
        Checks.due("of 500", smallLeak(500), 1);
    }

    private static int smallLeak(int air) {
        AirStation station = Edges.holding(air);
        station.set(5, 2);
        return station.leakTest(60);
    }

    private static void testOutOfRange() {
        AirStation station = Edges.still(10);
        Edges.dueRefused("leakTest", station, station::leakTest, ARGUMENT, 0, 61, 600, -1, LEAST_INT, GREATEST_INT);
        Checks.due("the time", station.value(7), 0);
        Checks.due("tests kept", station.value(11), 0);
    }

    private static void testTooLate() {
        Checks.due("60 to the latest time", Edges.aged(99940).leakTest(60), 0);
        AirStation station = Edges.aged(99941);
        Edges.dueRefused("leakTest", station, station::leakTest, STATE, 60);
        Checks.due("59 to the latest time", station.leakTest(59), 0);
        Checks.due("the time", station.value(7), 100000);
        Edges.dueRefused("leakTest", station, station::leakTest, STATE, 1, 60);
        station.undo();
        Checks.due("58", station.leakTest(58), 0);
        Edges.dueRefused("leakTest", station, station::leakTest, STATE, 2);
        Checks.due("1 to the latest time", station.leakTest(1), 0);
        Edges.dueRefused("leakTest", station, station::leakTest, STATE, 1);
    }
}
