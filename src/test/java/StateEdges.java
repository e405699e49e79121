import java.math.BigInteger;
import java.util.ArrayDeque;
import java.util.ArrayList;
import java.util.Deque;
import java.util.List;

/** The boundary cases of the saved states, the exceptions and the constants, and of promises 26 and 27. */
final class StateEdges {
    private static final Class<?> ARGUMENT = IllegalArgumentException.class;
    private static final Class<?> STATE = IllegalStateException.class;
    private static final Class<?> INDEX = IndexOutOfBoundsException.class;

    private StateEdges() {
    }

    static void run(Edges edges) {
        edges.under("Terms");
        edges.of("Each successful call of a method whose description says \"undoable\" saves the state from before the "
                + "call", StateEdges::eachUndoableCallSaves);
        edges.of("Each successful call", StateEdges::refusedCallsSaveNothing);
        edges.of("a method whose description says \"undoable\"", StateEdges::otherCallsSaveNothing);
        edges.of("even if the call changes nothing", StateEdges::callsThatChangeNothingSave);
        edges.of("at most 4 states are saved, and the oldest is dropped first.", StateEdges::fourStates);
        edges.of("The saved state contains everything except the text.", StateEdges::everythingButTheText);
        edges.of("A call that throws an exception changes nothing.", StateEdges::refusedCallsChangeNothing);
        edges.of("If several exceptions apply, the one that is listed first is thrown.", StateEdges::firstListed);
        edges.of("`NONE = -1`: There is no such thing.", StateEdges::none);
        edges.under("Promise 26");
        edges.of("Restores the most recently saved state and removes it from the saved states.",
                StateEdges::latestFirst);
        edges.of("Returns the number of saved states that remain.", StateEdges::remaining);
        edges.of("Throws `IllegalStateException` if there is no saved state", StateEdges::undoOfNone);
        edges.under("Promise 27");
        edges.of("Returns a hash of the state.", StateEdges::digestOfLikeStates);
        edges.of("Start with h = 3631", StateEdges::digestOfNew);
        edges.of("for each of the following values v, set h = 31 * h + v: the length of the text",
                StateEdges::digestOfTexts);
        edges.of("value() for 0 to 11; setting() for 0 to 7; booked() for 0 to 5", StateEdges::digestOfValues);
        edges.of("for each compressor the values of compressor() for what = 0 to 9, and next()",
                StateEdges::digestOfCompressors);
        edges.of("for each result that is kept, from the latest one, result()", StateEdges::digestOfResults);
        edges.of("the number of saved states.", StateEdges::digestCountsSavedStates);
        edges.of("Returns the hash, with the overflow of long arithmetic ignored.", StateEdges::digestOverflows);
    }

    // ---- saved states

    private static Runnable[] undoableCalls(AirStation station) {
        return new Runnable[] {
            () -> station.setVolume(2000), () -> station.set(6, 500), () -> station.addCompressor(70),
            () -> station.trip(0), () -> station.clear(1), station::rotate, () -> station.pass(7),
            () -> station.leakTest(7), station::carryOut,
        };
    }

    /** With three saved states and two results: compressor 0 is loaded, 1 tripped and 2 off; the order is 1, 2, 0. */
    private static AirStation busy() {
        AirStation station = Edges.firstAlone(3, 20, 30);
        station.set(5, 2);
        station.leakTest(1);
        station.leakTest(2);
        station.pass(1);
        station.rotate();
        station.trip(1);
        Checks.write(station, "d9;m9;");
        station.set(0, 7000);
        Checks.due("undo()", station.undo(), 3);
        Edges.dueOrder("rotated", station, 1, 2, 0);
        return station;
    }

    private static void eachUndoableCallSaves() {
        int calls = undoableCalls(new AirStation()).length;
        for (int call = 0; call < calls; call++) {
            AirStation station = busy();
            String before = told(station);
            long digest = station.digest();
            undoableCalls(station)[call].run();
            Checks.due("call " + call + " changes something", told(station).equals(before) ? 1 : 0, 0);
            Checks.due("call " + call + " undone", station.undo(), 3);
            Checks.dueText("the state behind call " + call, told(station), before);
            Checks.due("the digest behind call " + call, station.digest(), digest);
        }
    }

    private static void refusedCallsSaveNothing() {
        AirStation station = busy();
        Edges.dueRefused("setVolume", station, station::setVolume, ARGUMENT, 99);
        Edges.dueRefused("setVolume", station, station::setVolume, STATE, 100);
        Edges.dueRefused("set", station, value -> station.set(6, value), ARGUMENT, 3001);
        Edges.dueRefused("addCompressor", station, station::addCompressor, ARGUMENT, 9);
        Edges.dueRefused("trip", station, station::trip, INDEX, 3);
        Edges.dueRefused("trip", station, station::trip, STATE, 1);
        Edges.dueRefused("clear", station, station::clear, INDEX, 3);
        Edges.dueRefused("clear", station, station::clear, STATE, 0);
        Edges.dueRefused("pass", station, station::pass, ARGUMENT, 601);
        Edges.dueRefused("leakTest", station, station::leakTest, ARGUMENT, 61);
        station.append('x');
        Checks.due("carryOut() with an error", station.carryOut(), -16);
        Checks.due("undo()", station.undo(), 2);
    }

    private static void otherCallsSaveNothing() {
        AirStation station = busy();
        Runnable[] calls = {
            () -> station.compressor(0, 0), () -> station.atStage(0), () -> station.value(0),
            () -> station.setting(0), () -> station.booked(0), () -> station.next(0), () -> station.pressureIn(600),
            station::minutesToLoad, () -> station.canServe(0), () -> station.energyWith(10, 600),
            () -> station.bestOrder(30, 0), station::loadedShare, () -> station.append('r'), station::clearText,
            station::digest,
        };
        String before = told(station);
        for (int call = 0; call < calls.length; call++) {
            calls[call].run();
            Checks.dueText("the state behind call " + call, told(station), before);
        }
        Checks.due("undo()", station.undo(), 2);
    }

    private static void callsThatChangeNothingSave() {
        AirStation station = new AirStation();
        station.setVolume(1000);
        Checks.due("setVolume to what it is", station.undo(), 0);
        station.set(0, 6500);
        Checks.due("set to what it is", station.undo(), 0);
        station.carryOut();
        Checks.due("carryOut of nothing", station.undo(), 0);
        Checks.write(station, "d100;");
        station.carryOut();
        Checks.due("carryOut of what it is", station.undo(), 0);
        station.rotate();
        Checks.due("rotate of none", station.undo(), 0);
        for (int turn = 0; turn < 4; turn++) {
            station.set(0, 6500);
        }
        for (int left = 3; left >= 0; left--) {
            Checks.due("four that are alike", station.undo(), left);
        }
        Checks.dueIllegalState("undo()", station, station::undo);
    }

    private static void fourStates() {
        for (int calls = 0; calls <= 9; calls++) {
            AirStation station = new AirStation();
            for (int demand = 1; demand <= calls; demand++) {
                station.set(6, demand);
            }
            int kept = Math.min(calls, 4);
            for (int undone = 1; undone <= kept; undone++) {
                Checks.due("undo() behind " + calls, station.undo(), kept - undone);
                int demand = calls - undone;
                Checks.due("the demand", station.setting(6), demand == 0 ? 100 : demand);
            }
            Checks.dueIllegalState("undo() behind " + calls, station, station::undo);
        }
    }

    private static void everythingButTheText() {
        AirStation station = Edges.still(10, 20, 30, 40, 50);
        station.set(0, 12000);
        station.pass(3);
        for (int test = 0; test < 6; test++) {
            station.set(5, test);
            station.leakTest(1);
        }
        station.trip(3);
        station.clear(3);
        station.trip(2);
        Checks.write(station, "d9;");
        String before = told(station);
        station.leakTest(5);
        Checks.due("undo()", station.undo(), 3);
        Checks.dueText("all six results", told(station), before);
        changeAll(station);
        Checks.write(station, "r;r");
        Checks.due("undo()", station.undo(), 3);
        Checks.dueText("everything", told(station), before);
        Checks.due("the text of now", station.clearText(), 3);
        station.rotate();
        station.undo();
        Checks.due("an emptied text stays empty", station.clearText(), 0);
    }

    /** One call that changes whatever it can: the orders of the text, a rotation and minutes. */
    private static void changeAll(AirStation station) {
        Checks.write(station, "d3000;c2;t4;m600;r;t0;m20;");
        Checks.due("carryOut()", station.carryOut(), 7);
        Checks.due("the rotations", station.value(9) > 0 ? 1 : 0, 1);
    }

    /** All that the calls tell, but for the text and the number of saved states. */
    private static String told(AirStation station) {
        List<Long> all = new ArrayList<>();
        addState(station, all);
        return all.toString();
    }

    private static void addState(AirStation station, List<Long> all) {
        for (int what = 0; what < 12; what++) {
            all.add((long) station.value(what));
        }
        for (int what = 0; what < 8; what++) {
            all.add((long) station.setting(what));
        }
        for (int what = 0; what < 6; what++) {
            all.add(station.booked(what));
        }
        for (int number = 0; number < station.value(3); number++) {
            for (int what = 0; what < 10; what++) {
                all.add((long) station.compressor(number, what));
            }
            all.add((long) station.next(number));
        }
        for (int index = 0; index < station.value(11); index++) {
            all.add((long) station.result(index));
        }
    }

    // ---- exceptions and constants

    private static void refusedCallsChangeNothing() {
        AirStation[] stations = {new AirStation(), busy(), Edges.unloadedOne(), Edges.aged(100000, 10, 20)};
        for (AirStation station : stations) {
            int length = station.append('d');
            String before = told(station);
            long digest = station.digest();
            for (Checks.Call call : refusedCalls(station)) {
                String answer = Checks.answerOf(call);
                Checks.due("it throws: " + answer, answer.endsWith("Exception") ? 1 : 0, 1);
                Checks.dueText("everything", told(station), before);
                Checks.due("the digest", station.digest(), digest);
            }
            Checks.due("the text", station.clearText(), length);
        }
    }

    private static List<Checks.Call> refusedCalls(AirStation station) {
        return List.of(() -> station.setVolume(99), () -> station.setVolume(5001), () -> station.set(8, 0),
                () -> station.set(6, 3001), () -> station.addCompressor(9), () -> station.trip(5),
                () -> station.clear(5), () -> station.pass(601), () -> station.leakTest(61),
                () -> station.compressor(5, 0), () -> station.atStage(5), () -> station.value(12),
                () -> station.setting(8), () -> station.booked(6), () -> station.result(6), () -> station.next(5),
                () -> station.pressureIn(601), () -> station.canServe(16001), () -> station.energyWith(9, 1),
                () -> station.energyWith(10, 601), () -> station.bestOrder(31, 0), () -> station.bestOrder(30, 5),
                () -> station.append(128));
    }

    private static void firstListed() {
        AirStation station = new AirStation();
        Edges.dueRefused("setVolume, too small for the air as well", station, station::setVolume, ARGUMENT, 99, 1);
        Edges.dueRefused("setVolume", station, station::setVolume, STATE, 100);
        AirStation five = Edges.still(10, 20, 30, 40, 50);
        Edges.dueRefused("addCompressor beside five", five, five::addCompressor, ARGUMENT, 9, 501);
        Edges.dueRefused("addCompressor beside five", five, five::addCompressor, STATE, 10, 500);
        AirStation late = Edges.aged(100000, 10);
        Edges.dueRefused("pass at the latest time", late, late::pass, ARGUMENT, 0, 601);
        Edges.dueRefused("pass at the latest time", late, late::pass, STATE, 1, 600);
        Edges.dueRefused("leakTest at the latest time", late, late::leakTest, ARGUMENT, 0, 61);
        Edges.dueRefused("leakTest at the latest time", late, late::leakTest, STATE, 1, 60);
        Edges.dueRefused("compressor(number, 10)", late, number -> late.compressor(number, 10), INDEX, -1, 1);
        Edges.dueRefused("compressor(0, what)", late, what -> late.compressor(0, what), ARGUMENT, -1, 10);
        Edges.dueRefused("bestOrder(minutes, 1)", late, minutes -> late.bestOrder(minutes, 1), ARGUMENT, 0, 31);
        Edges.dueRefused("bestOrder(minutes, 1)", late, minutes -> late.bestOrder(minutes, 1), INDEX, 1, 30);
        AirStation full = new AirStation();
        Checks.write(full, "r".repeat(100));
        Edges.dueRefused("append to a full text", full, full::append, ARGUMENT, -1, 128);
        Edges.dueRefused("append to a full text", full, full::append, STATE, 0, 127);
    }

    private static void none() {
        Checks.due("NONE", AirStation.NONE, -1);
        Checks.due("minutesToLoad() of none", new AirStation().minutesToLoad(), AirStation.NONE);
    }

    // ---- undo

    private static void latestFirst() {
        AirStation station = new AirStation();
        Deque<Integer> saved = new ArrayDeque<>();
        int[] pattern = {3, 1, 4, 2, 5, 4, 1, 1, 6, 3, 2, 5};
        int demand = 100;
        for (int turn = 0; turn < pattern.length; turn++) {
            // calls and undos in turn, so that the states go round in whatever holds them
            for (int call = 0; call < pattern[turn] && turn % 2 == 0; call++) {
                saved.addLast(demand);
                demand = 200 + 10 * turn + call;
                station.set(6, demand);
                if (saved.size() > 4) {
                    saved.removeFirst();
                }
            }
            for (int undo = 0; undo < pattern[turn] && turn % 2 == 1 && !saved.isEmpty(); undo++) {
                demand = saved.removeLast();
                Checks.due("undo() in turn " + turn, station.undo(), saved.size());
            }
            Checks.due("the demand of turn " + turn, station.setting(6), demand);
        }
    }

    private static void remaining() {
        AirStation station = new AirStation();
        station.rotate();
        Checks.due("of one", station.undo(), 0);
        for (int call = 0; call < 4; call++) {
            station.rotate();
        }
        Checks.due("of four", station.undo(), 3);
        station.rotate();
        station.rotate();
        Checks.due("of four, one dropped", station.undo(), 3);
        Checks.due("of three", station.undo(), 2);
        Checks.due("of two", station.undo(), 1);
        Checks.due("of one", station.undo(), 0);
        Checks.due("the rotations", station.value(9), 1);
    }

    private static void undoOfNone() {
        AirStation station = new AirStation();
        Checks.dueIllegalState("undo() of a new one", station, station::undo);
        station.set(6, 1);
        station.undo();
        Checks.dueIllegalState("undo() twice", station, station::undo);
        for (int call = 0; call < 6; call++) {
            station.set(6, call);
        }
        for (int undo = 0; undo < 4; undo++) {
            station.undo();
        }
        Checks.dueIllegalState("undo() five times", station, station::undo);
        Checks.due("the demand", station.setting(6), 1);
    }

    // ---- digest

    private static long hashOf(AirStation station, int length, int saved) {
        List<Long> all = new ArrayList<>();
        all.add((long) length);
        addState(station, all);
        all.add((long) saved);
        BigInteger hash = BigInteger.valueOf(3631);
        for (long value : all) {
            hash = hash.multiply(BigInteger.valueOf(31)).add(BigInteger.valueOf(value));
        }
        return hash.longValue();
    }

    private static void digestOfNew() {
        AirStation station = new AirStation();
        Checks.due("digest()", station.digest(), hashOf(station, 0, 0));
        Checks.due("digest() once more", station.digest(), hashOf(station, 0, 0));
    }

    private static void digestOfLikeStates() {
        AirStation station = new AirStation();
        AirStation other = new AirStation();
        Checks.due("new ones", station.digest(), other.digest());
        station.append('r');
        other.append('d');
        Checks.due("texts that are as long", station.digest(), other.digest());
        station.rotate();
        Checks.due("another state", station.digest() == other.digest() ? 1 : 0, 0);
        other.rotate();
        Checks.due("the same way", station.digest(), other.digest());
        station.undo();
        station.set(6, 100);
        other.undo();
        other.set(7, 480);
        Checks.due("another way", station.digest(), other.digest());
    }

    private static void digestOfTexts() {
        int[] lengths = {0, 1, 50, 99, 100};
        for (int length : lengths) {
            AirStation station = new AirStation();
            Checks.write(station, "r".repeat(length));
            Checks.due("digest() with a text of " + length, station.digest(), hashOf(station, length, 0));
            station.clearText();
            Checks.due("digest() with an emptied one", station.digest(), new AirStation().digest());
        }
    }

    private static void digestOfValues() {
        AirStation station = new AirStation();
        station.setVolume(999);
        station.rotate();
        station.pass(7);
        Checks.due("digest()", station.digest(), hashOf(station, 0, 3));
        int[] values = {7000, 150, 9000, 6, 4, 3, 3000, 240};
        for (int what = 0; what < 8; what++) {
            station.set(what, values[what]);
            Checks.due("digest() behind set(" + what + ", ..)", station.digest(), hashOf(station, 0, 4));
        }
        station.pass(7);
        Checks.due("an unmet demand", station.booked(3) > 0 ? 1 : 0, 1);
        Checks.due("digest() with it", station.digest(), hashOf(station, 0, 4));
    }

    private static void digestOfCompressors() {
        for (int count = 0; count <= 5; count++) {
            AirStation station = new AirStation();
            for (int number = 0; number < count; number++) {
                station.addCompressor(10 + number);
            }
            Checks.due("digest() of " + count, station.digest(), hashOf(station, 0, Math.min(count, 4)));
        }
        AirStation station = busy();
        station.addCompressor(500);
        station.clear(1);
        station.pass(1);
        Checks.due("digest() of a busy one", station.digest(), hashOf(station, 6, 4));
        AirStation unloaded = Edges.unloadedOne();
        unloaded.pass(2);
        Checks.due("digest() with a timer", unloaded.digest(), hashOf(unloaded, 0, 4));
        unloaded.pass(3);
        Checks.due("digest() with a rest", unloaded.digest(), hashOf(unloaded, 0, 4));
    }

    private static void digestOfResults() {
        AirStation station = new AirStation();
        for (int test = 1; test <= 8; test++) {
            Checks.due("a leak test", station.leakTest(test) > 0 ? 1 : 0, 1);
            Checks.due("digest() with " + test, station.digest(), hashOf(station, 0, Math.min(test, 4)));
        }
        station.undo();
        Checks.due("digest() undone", station.digest(), hashOf(station, 0, 3));
    }

    private static void digestCountsSavedStates() {
        AirStation station = new AirStation();
        long first = station.digest();
        for (int call = 1; call <= 6; call++) {
            station.set(0, 6500);
            Checks.due("digest() behind " + call, station.digest() - first, Math.min(call, 4));
        }
        for (int left = 3; left >= 0; left--) {
            station.undo();
            Checks.due("digest() with " + left, station.digest() - first, left);
        }
    }

    private static void digestOverflows() {
        // 3631 * 31 ^ 28 is beyond a long many times: what is left of it is taken modulo 2 ^ 64
        BigInteger hash = BigInteger.valueOf(3631);
        long[] values = {0, 1000, 6000, 6000, 0, 0, 0, 0, 0, 0, 0, 0, 0, 6500, 200, 10000, 5, 3, 2, 100, 480,
            0, 0, 0, 0, 0, 0, 0};
        for (long value : values) {
            hash = hash.multiply(BigInteger.valueOf(31)).add(BigInteger.valueOf(value));
        }
        Checks.due("it is beyond a long", hash.bitLength() > 64 ? 1 : 0, 1);
        Checks.due("digest()", new AirStation().digest(), hash.longValue());
        AirStation station = new AirStation();
        station.addCompressor(10);
        station.set(0, 1000);
        station.set(1, 500);
        station.addCompressor(20);
        Checks.due("the limit for loading is below 0 with more", station.compressor(1, 8), 0);
        station.addCompressor(30);
        Checks.due("a value below 0", station.compressor(2, 8), -500);
        Checks.due("digest() of it", station.digest(), hashOf(station, 0, 4));
    }
}
