/** Promises 1 to 9: a new object, and the calls that change the station. */
public final class StationTest {
    private static final int[] FIRST = {6500, 200, 10000, 5, 3, 2, 100, 480};
    private static final int[] LEAST = {1000, 10, 2000, 1, 0, 0, 0, 10};
    private static final int[] GREATEST = {12000, 500, 16000, 60, 30, 50, 3000, 5000};

    public static void main(String[] args) {
        promise1NewObject();
        promise2SetVolume();
        promise2PressureIsRoundedDown();
        promise3Set();
        promise3SetTakesEffect();
        promise4AddCompressor();
        promise5Trip();
        promise6Clear();
        promise7Rotate();
        promise7RotateKeepsTrippedOnes();
        promise8Pass();
        promise8PassEndsAtTheLatestTime();
        promise9LeakTest();
        promise9LeakTestUnloads();
        promise9LeakTestRotatesAndBlowsOff();
        promise9LeakTestLeavesStep2Out();
        Checks.end();
    }

    /** A station in which only what a test sets moves the air. */
    private static AirStation still() {
        AirStation station = new AirStation();
        station.set(5, 0);
        station.set(6, 0);
        return station;
    }

    private static void promise1NewObject() {
        AirStation station = new AirStation();
        Checks.due("NONE", AirStation.NONE, -1);
        Checks.dueValues("new", station, 1000, 6000, 6000, 0, 0, 0, 0, 0, 0, 0, 0, 0);
        Checks.dueBooked("new", station, 0, 0, 0, 0, 0, 0);
        for (int what = 0; what < 8; what++) {
            Checks.due("new: setting(" + what + ")", station.setting(what), FIRST[what]);
        }
        Checks.dueIndexOutOfBounds("new: compressor(0, 0)", station, () -> station.compressor(0, 0));
        Checks.dueIndexOutOfBounds("new: atStage(0)", station, () -> station.atStage(0));
        Checks.dueIndexOutOfBounds("new: result(0)", station, () -> station.result(0));
        Checks.dueIllegalState("new: undo()", station, station::undo);
        Checks.due("new: clearText()", station.clearText(), 0);
    }

    private static void promise2SetVolume() {
        AirStation station = new AirStation();
        Checks.due("setVolume(2000)", station.setVolume(2000), 3000);
        Checks.dueValues("setVolume(2000)", station, 2000, 6000, 3000);
        Checks.due("setVolume(5000)", station.setVolume(5000), 1200);
        Checks.due("setVolume(600)", station.setVolume(600), 10000);
        Checks.dueIllegalState("setVolume(599)", station, () -> station.setVolume(599));
        Checks.dueIllegalState("setVolume(100)", station, () -> station.setVolume(100));
        Checks.dueIllegalArgument("setVolume(99)", station, () -> station.setVolume(99));
        Checks.dueIllegalArgument("setVolume(5001)", station, () -> station.setVolume(5001));
        Checks.dueIllegalArgument("setVolume(0)", station, () -> station.setVolume(0));
        Checks.dueIllegalArgument("setVolume(least int)", station, () -> station.setVolume(Integer.MIN_VALUE));
        Checks.due("undo", station.undo(), 2);
        Checks.dueValues("undone", station, 5000, 6000, 1200);
        station.set(6, 3000);
        station.pass(3);
        Checks.due("setVolume(100) of no air", station.setVolume(100), 0);
    }

    private static void promise2PressureIsRoundedDown() {
        AirStation station = new AirStation();
        station.set(2, 10016);
        Checks.due("setVolume(599) at 10016", station.setVolume(599), 10016);
        Checks.due("setVolume(4999)", station.setVolume(4999), 1200);
        Checks.due("setVolume(599) again", station.setVolume(599), 10016);
        station.set(2, 10015);
        Checks.dueIllegalState("setVolume(599) at 10015", station, () -> station.setVolume(599));
    }

    private static void promise3Set() {
        for (int what = 0; what < 8; what++) {
            AirStation station = new AirStation();
            int setting = what;
            String told = "set(" + what + ", ..)";
            Checks.due(told, station.set(what, LEAST[what]), FIRST[what]);
            Checks.due(told, station.set(what, GREATEST[what]), LEAST[what]);
            Checks.due(told, station.set(what, GREATEST[what]), GREATEST[what]);
            Checks.due(told, station.setting(what), GREATEST[what]);
            Checks.dueIllegalArgument(told, station, () -> station.set(setting, LEAST[setting] - 1));
            Checks.dueIllegalArgument(told, station, () -> station.set(setting, GREATEST[setting] + 1));
            Checks.due(told + " undone, though it changed nothing", station.undo(), 2);
            Checks.due(told, station.setting(what), GREATEST[what]);
            Checks.due(told + " undone", station.undo(), 1);
            Checks.due(told, station.setting(what), LEAST[what]);
        }
        AirStation station = new AirStation();
        Checks.dueIllegalArgument("set(-1, 100)", station, () -> station.set(-1, 100));
        Checks.dueIllegalArgument("set(8, 100)", station, () -> station.set(8, 100));
        Checks.dueIllegalState("undo of what did not succeed", station, station::undo);
    }

    private static void promise3SetTakesEffect() {
        AirStation station = new AirStation();
        station.set(5, 50);
        station.set(6, 7);
        Checks.due("pass(1) with leak 50, demand 7", station.pass(1), 6000 - 300 - 7);
        station.set(2, 2000);
        Checks.due("the pressure before a minute", station.value(2), 5693);
        Checks.due("pass(1) with relief 2000", station.pass(1), 2000);
    }

    private static void promise4AddCompressor() {
        AirStation station = new AirStation();
        Checks.dueIllegalArgument("addCompressor(9)", station, () -> station.addCompressor(9));
        Checks.dueIllegalArgument("addCompressor(501)", station, () -> station.addCompressor(501));
        Checks.due("addCompressor(10)", station.addCompressor(10), 0);
        Checks.dueCompressor("alone", station, 0, 10, 0, 0, 0, 0, 0, 0, 0, 6300, 6700);
        Checks.due("addCompressor(500)", station.addCompressor(500), 1);
        Checks.dueCompressor("with another", station, 0, 10, 0, 0, 0, 0, 0, 0, 0, 6300, 6900);
        Checks.dueCompressor("the other", station, 1, 500, 0, 1, 0, 0, 0, 0, 0, 6100, 6700);
        Checks.due("addCompressor(100)", station.addCompressor(100), 2);
        Checks.due("addCompressor(100)", station.addCompressor(100), 3);
        Checks.due("addCompressor(100)", station.addCompressor(100), 4);
        Checks.dueIllegalState("a sixth one", station, () -> station.addCompressor(100));
        Checks.dueIllegalArgument("a sixth one of 9", station, () -> station.addCompressor(9));
        Checks.due("value(3)", station.value(3), 5);
        station.pass(4);
        Checks.due("undo", station.undo(), 3);
        Checks.due("undo", station.undo(), 2);
        Checks.due("value(3) undone", station.value(3), 4);
        Checks.due("addCompressor(20) again", station.addCompressor(20), 4);
        Checks.dueCompressor("again", station, 4, 20, 0, 4, 0, 0, 0, 0, 0, 5500, 6700);
    }

    private static void promise5Trip() {
        AirStation station = still();
        station.addCompressor(400);
        Checks.dueIndexOutOfBounds("trip(1)", station, () -> station.trip(1));
        Checks.dueIndexOutOfBounds("trip(-1)", station, () -> station.trip(-1));
        Checks.due("trip of one that is off", station.trip(0), 0);
        Checks.dueCompressor("tripped", station, 0, 400, 3, 0, 0, 0, 0, 0, 0);
        Checks.dueIllegalState("trip of a tripped one", station, () -> station.trip(0));
        Checks.due("a tripped one does nothing", station.pass(5), 6000);
        Checks.due("undo", station.undo(), 3);
        Checks.due("undo", station.undo(), 2);
        Checks.due("undone", station.compressor(0, 1), 0);
        Checks.due("it loads", station.pass(1), 6400);
        Checks.due("trip of a loaded one", station.trip(0), 1);
        station.undo();
        Checks.due("above 6700", station.pass(4), 6800);
        Checks.dueCompressor("unloaded", station, 0, 400, 2, 0, 2, 3, 2, 0, 1);
        Checks.due("trip of an unloaded one", station.trip(0), 2);
        Checks.dueCompressor("tripped", station, 0, 400, 3, 0, 2, 3, 0, 0, 1);
        station.pass(1);
        Checks.dueCompressor("a minute later", station, 0, 400, 3, 0, 2, 3, 0, 0, 1);
        station.clear(0);
        Checks.due("rest of a cleared one", station.compressor(0, 6), 3);
        Checks.due("trip of a resting one", station.trip(0), 0);
        Checks.due("rest of a tripped one", station.compressor(0, 6), 0);
    }

    private static void promise6Clear() {
        AirStation station = still();
        Checks.dueIndexOutOfBounds("clear(0) of none", station, () -> station.clear(0));
        station.addCompressor(50);
        station.addCompressor(60);
        Checks.dueIndexOutOfBounds("clear(2)", station, () -> station.clear(2));
        Checks.dueIndexOutOfBounds("clear(-1)", station, () -> station.clear(-1));
        Checks.dueIllegalState("clear of one that is off", station, () -> station.clear(1));
        station.trip(1);
        Checks.due("clear(1)", station.clear(1), 1);
        Checks.dueCompressor("cleared", station, 1, 60, 0, 1, 0, 0, 0, 3, 0);
        Checks.due("undo", station.undo(), 3);
        Checks.due("undone", station.compressor(1, 1), 3);
        station.set(4, 30);
        station.pass(1);
        Checks.dueIllegalState("clear of a loaded one", station, () -> station.clear(0));
        station.rotate();
        Checks.due("clear(1) at stage 0", station.clear(1), 0);
        Checks.due("the rest as it was set", station.compressor(1, 6), 30);
        station.trip(0);
        station.set(4, 0);
        Checks.due("clear(0) at stage 1", station.clear(0), 1);
        Checks.due("no rest", station.compressor(0, 6), 0);
        Checks.due("the other's rest stays as it began", station.compressor(1, 6), 30);
    }

    private static void promise7Rotate() {
        AirStation station = still();
        Checks.due("rotate() of none", station.rotate(), 0);
        Checks.due("it is counted", station.value(9), 1);
        station.undo();
        Checks.due("undone", station.value(9), 0);
        station.addCompressor(10);
        station.addCompressor(20);
        station.addCompressor(30);
        Checks.due("rotate() of like ones", station.rotate(), 0);
        // 6150 is below the limit of stage 0 alone, so that only compressor 0 loads.
        station.setVolume(975);
        station.pass(2);
        Checks.due("loaded minutes of 0", station.compressor(0, 3), 2);
        Checks.due("loaded minutes of 1", station.compressor(1, 3), 0);
        Checks.due("minutes since the rotation", station.value(8), 2);
        Checks.due("rotate()", station.rotate(), 3);
        Checks.dueValues("rotated", station, 975, 6020, 6174, 3, 1, 0, 0, 2, 0, 2, 10, 0);
        Checks.due("atStage(0)", station.atStage(0), 1);
        Checks.due("atStage(1)", station.atStage(1), 2);
        Checks.due("atStage(2)", station.atStage(2), 0);
        Checks.due("rotate() again", station.rotate(), 0);
        Checks.due("undo", station.undo(), 3);
        Checks.due("undo", station.undo(), 2);
        Checks.due("atStage(0) undone", station.atStage(0), 0);
        Checks.due("minutes since the rotation undone", station.value(8), 2);
    }

    private static void promise7RotateKeepsTrippedOnes() {
        AirStation station = still();
        station.addCompressor(10);
        station.addCompressor(20);
        station.addCompressor(30);
        station.pass(1);
        station.trip(0);
        station.trip(1);
        // loaded minutes: 1, 1, 0
        Checks.due("rotate()", station.rotate(), 3);
        Checks.due("2 first", station.atStage(0), 2);
        Checks.due("tripped 0 next", station.atStage(1), 0);
        Checks.due("tripped 1 last", station.atStage(2), 1);
        Checks.due("clear(1)", station.clear(1), 2);
        Checks.due("pass(2)", station.pass(2), 6090);
        // loaded minutes: 1, 1, 2
        Checks.due("rotate()", station.rotate(), 3);
        Checks.due("tripped 0 first", station.atStage(0), 0);
        Checks.due("2 last", station.atStage(2), 2);
        station.pass(2);
        // the limit of 1 is 6100 then, and the air is above it: 1, 1, 4
        Checks.due("loaded minutes of 1", station.compressor(1, 3), 1);
        Checks.due("rotate()", station.rotate(), 0);
    }

    private static void promise8Pass() {
        AirStation station = new AirStation();
        Checks.dueIllegalArgument("pass(0)", station, () -> station.pass(0));
        Checks.dueIllegalArgument("pass(-1)", station, () -> station.pass(-1));
        Checks.dueIllegalArgument("pass(601)", station, () -> station.pass(601));
        Checks.due("pass(1)", station.pass(1), 5888);
        Checks.due("pass(1)", station.pass(1), 5888 - 11 - 100);
        Checks.dueValues("two minutes", station, 1000, 5777, 5777, 0, 0, 0, 0, 2, 2);
        Checks.due("pass(600)", station.pass(600), 0);
        // the rotation comes with the minute that begins at the time 480
        Checks.dueValues("602 minutes", station, 1000, 0, 0, 0, 0, 0, 0, 602, 122, 1);
        Checks.due("undo", station.undo(), 2);
        Checks.dueValues("undone", station, 1000, 5777, 5777, 0, 0, 0, 0, 2, 2, 0);
        Checks.due("undo", station.undo(), 1);
        Checks.due("undone", station.value(1), 5888);
    }

    private static void promise8PassEndsAtTheLatestTime() {
        AirStation station = new AirStation();
        for (int turn = 0; turn < 166; turn++) {
            station.pass(600);
        }
        Checks.due("the time", station.value(7), 99600);
        Checks.dueIllegalState("pass(401)", station, () -> station.pass(401));
        Checks.due("pass(399)", station.pass(399), 0);
        Checks.dueIllegalState("leakTest(2)", station, () -> station.leakTest(2));
        Checks.due("leakTest(1)", station.leakTest(1), 0);
        Checks.due("the time", station.value(7), 100000);
        Checks.dueIllegalState("pass(1)", station, () -> station.pass(1));
        Checks.dueIllegalArgument("pass(0)", station, () -> station.pass(0));
        Checks.dueIllegalState("leakTest(1)", station, () -> station.leakTest(1));
        Checks.dueIllegalArgument("leakTest(61)", station, () -> station.leakTest(61));
        station.undo();
        Checks.due("pass(1)", station.pass(1), 0);
        Checks.due("the unmet demand but for what there was", station.booked(3) + station.booked(2), 10000000);
        Checks.due("pressureIn(600) beyond it", station.pressureIn(600), 0);
    }

    private static void promise9LeakTest() {
        AirStation station = new AirStation();
        Checks.dueIllegalArgument("leakTest(0)", station, () -> station.leakTest(0));
        Checks.dueIllegalArgument("leakTest(61)", station, () -> station.leakTest(61));
        Checks.due("leakTest(1)", station.leakTest(1), 12);
        Checks.due("leakTest(2)", station.leakTest(2), 22);
        Checks.dueValues("tested", station, 1000, 5966, 5966, 0, 0, 0, 0, 3, 3, 0, 0, 2);
        Checks.dueBooked("tested", station, 0, 34, 0, 0, 0, 0);
        Checks.due("result(0)", station.result(0), 22);
        Checks.due("result(1)", station.result(1), 12);
        Checks.due("undo", station.undo(), 1);
        Checks.due("value(11) undone", station.value(11), 1);
        Checks.due("result(0) undone", station.result(0), 12);
        station.set(6, 3000);
        station.pass(2);
        Checks.due("unmet in the second minute", station.booked(3), 28);
        Checks.due("leakTest(60) of no air", station.leakTest(60), 0);
        Checks.due("no demand lacks in it", station.booked(3), 28);
    }

    private static void promise9LeakTestUnloads() {
        AirStation station = new AirStation();
        station.addCompressor(100);
        station.addCompressor(40);
        station.set(0, 6300);
        station.set(6, 0);
        // 6000 is below 6100, the limit of stage 0, and not below 5900, that of stage 1
        Checks.due("pass(2)", station.pass(2), 6176);
        Checks.due("leakTest(7)", station.leakTest(7), 84);
        Checks.dueCompressor("unloaded", station, 0, 100, 2, 0, 2, 7, 0, 0, 1);
        Checks.dueCompressor("still off", station, 1, 40, 0, 1, 0, 0, 0, 0, 0);
        Checks.dueBooked("tested", station, 200, 108, 0, 0, 0, 2 * 1000 + 7 * 300);
        Checks.due("below the limit", station.next(0), 2);
        station.pass(1);
        Checks.dueCompressor("loaded, but not from being off", station, 0, 100, 1, 0, 3, 7, 0, 0, 1);
    }

    private static void promise9LeakTestRotatesAndBlowsOff() {
        AirStation station = still();
        station.addCompressor(100);
        station.addCompressor(40);
        station.set(0, 6300);
        station.set(7, 10);
        station.set(2, 7000);
        station.pass(9);
        Checks.due("loaded minutes", station.compressor(0, 3), 8);
        station.set(2, 2000);
        station.set(5, 50);
        // the leak takes 50 of 1000 of the pressures 6800, 2000, 1900; only the first minute blows off
        Checks.due("leakTest(3)", station.leakTest(3), 340 + 100 + 95);
        Checks.due("blown off", station.booked(4), 6800 - 340 - 2000);
        Checks.due("the rotations", station.value(9), 1);
        Checks.due("minutes since", station.value(8), 2);
        Checks.due("atStage(0)", station.atStage(0), 1);
    }

    private static void promise9LeakTestLeavesStep2Out() {
        AirStation station = still();
        station.addCompressor(400);
        station.addCompressor(10);
        station.trip(1);
        station.clear(1);
        Checks.due("pass(4)", station.pass(4), 7200);
        Checks.dueCompressor("above 6900", station, 0, 400, 2, 0, 3, 1, 0, 0, 1);
        station.pass(2);
        Checks.due("the timer", station.compressor(0, 5), 2);
        station.trip(1);
        station.clear(1);
        station.set(0, 12000);
        Checks.due("leakTest(60)", station.leakTest(60), 0);
        Checks.dueCompressor("the timer stays", station, 0, 400, 2, 0, 3, 63, 2, 0, 1);
        Checks.dueCompressor("the rest stays", station, 1, 10, 0, 1, 0, 0, 0, 3, 0);
        Checks.due("the air stays", station.value(1), 7200);
        Checks.due("the time", station.value(7), 66);
        Checks.due("the next minute loads", station.next(0), 2);
    }
}
