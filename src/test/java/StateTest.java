/** Promises 26 and 27: saved states and the digest. */
public final class StateTest {
    public static void main(String[] args) {
        promise26FourStatesAreKept();
        promise26EachUndoableCall();
        promise26QuestionsAreNotUndoable();
        promise26EverythingButTheText();
        promise26UndoThenCall();
        promise27DigestOfANewOne();
        promise27DigestOfABusyOne();
        promise27DigestIsAQuestion();
        Checks.end();
    }

    private static void promise26FourStatesAreKept() {
        AirStation station = new AirStation();
        Checks.dueIllegalState("undo() of a new one", station, station::undo);
        for (int demand = 1; demand <= 6; demand++) {
            station.set(6, demand);
        }
        for (int left = 3; left >= 0; left--) {
            Checks.due("undo()", station.undo(), left);
            Checks.due("setting(6)", station.setting(6), left + 2);
        }
        Checks.dueIllegalState("undo() of no more", station, station::undo);
        Checks.due("setting(6)", station.setting(6), 2);
    }

    private static void promise26EachUndoableCall() {
        AirStation station = new AirStation();
        long[] digests = new long[10];
        Runnable[] calls = {
            () -> station.setVolume(1500), () -> station.set(0, 7000), () -> station.addCompressor(300),
            () -> station.pass(30), () -> station.trip(0), () -> station.clear(0), () -> station.rotate(),
            () -> station.leakTest(5), () -> station.carryOut(), () -> station.setVolume(1500),
        };
        for (int call = 0; call < calls.length; call++) {
            digests[call] = station.digest();
            calls[call].run();
            station.undo();
            Checks.due("undone call " + call, station.digest(), digests[call] - lostState(call));
            calls[call].run();
        }
    }

    // The number of saved states is the last value of the digest; a fifth state costs the oldest of four.
    private static long lostState(int savedBefore) {
        return savedBefore >= 4 ? 1 : 0;
    }

    private static void promise26QuestionsAreNotUndoable() {
        AirStation station = new AirStation();
        station.addCompressor(100);
        station.pressureIn(5);
        station.minutesToLoad();
        station.canServe(5000);
        station.energyWith(100, 5);
        station.bestOrder(5, 0);
        station.loadedShare();
        station.next(0);
        station.digest();
        station.append('r');
        station.carryOut();
        station.clearText();
        Checks.due("undo()", station.undo(), 0);
        Checks.dueIllegalState("undo() of no more", station, station::undo);
    }

    private static void promise26EverythingButTheText() {
        AirStation station = new AirStation();
        station.addCompressor(350);
        station.addCompressor(120);
        station.leakTest(3);
        station.pass(20);
        String before = told(station);
        station.append('d');
        station.leakTest(60);
        station.undo();
        Checks.dueText("leakTest undone", told(station), before);
        station.append('5');
        station.pass(600);
        station.undo();
        Checks.dueText("pass undone", told(station), before);
        station.append(';');
        station.addCompressor(500);
        station.undo();
        Checks.dueText("addCompressor undone", told(station), before);
        station.rotate();
        station.undo();
        Checks.dueText("rotate undone", told(station), before);
        station.trip(0);
        station.undo();
        Checks.dueText("trip undone", told(station), before);
        Checks.due("the text", station.clearText(), 3);
        Checks.dueText("clearText is of the text alone", told(station), before);
    }

    /** All that the calls tell, but for the text and the number of saved states. */
    private static String told(AirStation station) {
        StringBuilder all = new StringBuilder();
        for (int what = 0; what < 12; what++) {
            all.append(station.value(what)).append(' ');
        }
        for (int what = 0; what < 8; what++) {
            all.append(station.setting(what)).append(' ');
        }
        for (int what = 0; what < 6; what++) {
            all.append(station.booked(what)).append(' ');
        }
        for (int number = 0; number < station.value(3); number++) {
            for (int what = 0; what < 10; what++) {
                all.append(station.compressor(number, what)).append(' ');
            }
        }
        for (int index = 0; index < station.value(11); index++) {
            all.append(station.result(index)).append(' ');
        }
        return all.toString();
    }

    private static void promise26UndoThenCall() {
        AirStation station = new AirStation();
        for (int demand = 1; demand <= 5; demand++) {
            station.set(6, demand);
        }
        station.undo();
        station.undo();
        station.set(6, 70);
        Checks.due("undo()", station.undo(), 2);
        Checks.due("setting(6)", station.setting(6), 3);
        Checks.due("undo()", station.undo(), 1);
        Checks.due("setting(6)", station.setting(6), 2);
        station.set(6, 80);
        station.set(6, 90);
        station.set(6, 100);
        station.set(6, 110);
        Checks.due("undo()", station.undo(), 3);
        Checks.due("undo()", station.undo(), 2);
        Checks.due("undo()", station.undo(), 1);
        Checks.due("undo()", station.undo(), 0);
        Checks.due("setting(6)", station.setting(6), 2);
    }

    private static long hashOf(long... values) {
        long hash = 3631;
        for (long value : values) {
            hash = 31 * hash + value;
        }
        return hash;
    }

    private static void promise27DigestOfANewOne() {
        AirStation station = new AirStation();
        Checks.due("digest()", station.digest(), hashOf(0,
                1000, 6000, 6000, 0, 0, 0, 0, 0, 0, 0, 0, 0,
                6500, 200, 10000, 5, 3, 2, 100, 480,
                0, 0, 0, 0, 0, 0,
                0));
        station.append('r');
        station.append('r');
        Checks.due("digest()", station.digest(), hashOf(2,
                1000, 6000, 6000, 0, 0, 0, 0, 0, 0, 0, 0, 0,
                6500, 200, 10000, 5, 3, 2, 100, 480,
                0, 0, 0, 0, 0, 0,
                0));
    }

    private static void promise27DigestOfABusyOne() {
        AirStation station = new AirStation();
        station.addCompressor(400);
        station.addCompressor(50);
        station.trip(1);
        station.leakTest(1);
        station.leakTest(2);
        // 6000 - 12 - 11 - 11 = 5966 liters; then 400 more, less 11 and 100
        station.pass(1);
        Checks.due("digest()", station.digest(), hashOf(0,
                1000, 6255, 6255, 2, 1, 0, 1, 4, 4, 0, 400, 2,
                6500, 200, 10000, 5, 3, 2, 100, 480,
                400, 45, 100, 0, 0, 4000,
                400, 1, 0, 1, 0, 0, 0, 1, 6300, 6900, 3,
                50, 3, 1, 0, 0, 0, 0, 0, 6100, 6700, 0,
                22, 12,
                4));
    }

    private static void promise27DigestIsAQuestion() {
        AirStation station = new AirStation();
        station.addCompressor(400);
        station.pass(3);
        Checks.due("digest() twice", station.digest(), station.digest());
        AirStation other = new AirStation();
        other.addCompressor(400);
        other.pass(3);
        Checks.due("digest() of another", station.digest(), other.digest());
    }
}
