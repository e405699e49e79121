/** Promises 10 to 16: the calls that tell values. */
public final class ValuesTest {
    public static void main(String[] args) {
        promise10Compressor();
        promise10OrderOfExceptions();
        promise11AtStage();
        promise12Value();
        promise13Setting();
        promise14Booked();
        promise14BookedIsLong();
        promise15Result();
        promise16Next();
        promise16NextLooksAtNoRotation();
        Checks.end();
    }

    /** Limits for loading 6300, 6100, 5900; for unloading 7100, 6900, 6700; nothing else moves the air. */
    private static AirStation three() {
        AirStation station = new AirStation();
        station.set(5, 0);
        station.set(6, 0);
        station.addCompressor(400);
        station.addCompressor(300);
        station.addCompressor(200);
        return station;
    }

    private static void promise10Compressor() {
        AirStation station = three();
        station.trip(2);
        station.pass(2);
        Checks.dueCompressor("two minutes", station, 0, 400, 1, 0, 2, 0, 0, 0, 1, 6300, 7100);
        Checks.dueCompressor("two minutes", station, 1, 300, 1, 1, 2, 0, 0, 0, 1, 6100, 6900);
        Checks.dueCompressor("two minutes", station, 2, 200, 3, 2, 0, 0, 0, 0, 0, 5900, 6700);
        station.pass(3);
        // 7400 is above both limits
        Checks.dueCompressor("five minutes", station, 0, 400, 2, 0, 2, 3, 2, 0, 1, 6300, 7100);
        station.pass(3);
        Checks.dueCompressor("eight minutes", station, 1, 300, 0, 1, 2, 5, 0, 3, 1, 6100, 6900);
        station.rotate();
        Checks.dueCompressor("rotated", station, 1, 300, 0, 2, 2, 5, 0, 3, 1, 5900, 6700);
    }

    private static void promise10OrderOfExceptions() {
        AirStation station = three();
        Checks.dueIndexOutOfBounds("compressor(3, 0)", station, () -> station.compressor(3, 0));
        Checks.dueIndexOutOfBounds("compressor(-1, 0)", station, () -> station.compressor(-1, 0));
        Checks.dueIndexOutOfBounds("compressor(5, 0)", station, () -> station.compressor(5, 0));
        Checks.dueIndexOutOfBounds("compressor(3, 10)", station, () -> station.compressor(3, 10));
        Checks.dueIllegalArgument("compressor(2, 10)", station, () -> station.compressor(2, 10));
        Checks.dueIllegalArgument("compressor(0, -1)", station, () -> station.compressor(0, -1));
    }

    private static void promise11AtStage() {
        AirStation station = three();
        for (int stage = 0; stage < 3; stage++) {
            Checks.due("atStage(" + stage + ")", station.atStage(stage), stage);
        }
        Checks.dueIndexOutOfBounds("atStage(3)", station, () -> station.atStage(3));
        Checks.dueIndexOutOfBounds("atStage(-1)", station, () -> station.atStage(-1));
        station.trip(0);
        Checks.due("a tripped one keeps its stage", station.atStage(0), 0);
        station.pass(1);
        station.rotate();
        // loaded minutes: 0, 1, 0
        Checks.due("atStage(0) rotated", station.atStage(0), 0);
        Checks.due("atStage(1) rotated", station.atStage(1), 2);
        Checks.due("atStage(2) rotated", station.atStage(2), 1);
        Checks.due("a new one comes last", station.addCompressor(10), 3);
        Checks.due("atStage(3) now", station.atStage(3), 3);
        Checks.due("its stage", station.compressor(3, 2), 3);
    }

    private static void promise12Value() {
        AirStation station = three();
        Checks.dueIllegalArgument("value(-1)", station, () -> station.value(-1));
        Checks.dueIllegalArgument("value(12)", station, () -> station.value(12));
        station.setVolume(2000);
        station.trip(2);
        Checks.dueValues("before", station, 2000, 6000, 3000, 3, 0, 0, 1, 0, 0, 0, 0, 0);
        station.pass(3);
        Checks.dueValues("loaded", station, 2000, 8100, 4050, 3, 2, 0, 1, 3, 3, 0, 700, 0);
        station.leakTest(2);
        Checks.dueValues("tested", station, 2000, 8100, 4050, 3, 0, 2, 1, 5, 5, 0, 0, 1);
        station.rotate();
        station.pass(1);
        Checks.dueValues("rotated", station, 2000, 8800, 4400, 3, 2, 0, 1, 6, 1, 1, 700, 1);
        station.trip(1);
        Checks.dueValues("tripped", station, 2000, 8800, 4400, 3, 1, 0, 2, 6, 1, 1, 400, 1);
    }

    private static void promise13Setting() {
        AirStation station = new AirStation();
        Checks.dueIllegalArgument("setting(-1)", station, () -> station.setting(-1));
        Checks.dueIllegalArgument("setting(8)", station, () -> station.setting(8));
        int[] values = {7000, 150, 9000, 6, 4, 3, 200, 240};
        for (int what = 0; what < 8; what++) {
            station.set(what, values[what]);
        }
        for (int what = 0; what < 8; what++) {
            Checks.due("setting(" + what + ")", station.setting(what), values[what]);
        }
    }

    private static void promise14Booked() {
        AirStation station = three();
        Checks.dueIllegalArgument("booked(-1)", station, () -> station.booked(-1));
        Checks.dueIllegalArgument("booked(6)", station, () -> station.booked(6));
        station.set(5, 10);
        station.set(6, 3000);
        station.set(2, 6400);
        station.pass(1);
        // 6000 is below the limits 6300 and 6100, not below 5900
        Checks.dueBooked("one minute", station, 700, 60, 3000, 0, 0, 7000);
        Checks.due("the air", station.value(1), 3640);
        station.pass(1);
        Checks.dueBooked("two minutes", station, 1600, 96, 6000, 0, 0, 16000);
        Checks.due("the air", station.value(1), 1504);
        station.pass(1);
        Checks.dueBooked("three minutes", station, 2500, 111, 8389, 611, 0, 25000);
        Checks.due("the air", station.value(1), 0);
        station.set(6, 0);
        station.set(2, 2000);
        station.pass(3);
        // 900, then 1791, then 2674 of which 674 go
        Checks.dueBooked("six minutes", station, 5200, 137, 8389, 611, 674, 52000);
    }

    private static void promise14BookedIsLong() {
        AirStation station = new AirStation();
        for (int number = 0; number < 5; number++) {
            station.addCompressor(500);
        }
        station.set(6, 3000);
        for (int turn = 0; turn < 160; turn++) {
            station.pass(600);
        }
        // the demand is more than all deliver, so that none of them ever unloads
        Checks.due("the energy", station.booked(5), 10 * station.booked(0));
        Checks.due("it is beyond an int", station.booked(5) > Integer.MAX_VALUE ? 1 : 0, 1);
        Checks.dueDouble("loadedShare()", station.loadedShare(), 1.0);
    }

    private static void promise15Result() {
        AirStation station = new AirStation();
        Checks.dueIndexOutOfBounds("result(0)", station, () -> station.result(0));
        int[] results = new int[8];
        for (int test = 0; test < 8; test++) {
            station.set(5, 5 * test);
            station.setVolume(1000 + 10 * test);
            results[test] = station.value(2) * 5 * test / 1000;
            Checks.due("leakTest(1) number " + test, station.leakTest(1), results[test]);
            Checks.due("value(11)", station.value(11), Math.min(test + 1, 6));
        }
        for (int index = 0; index < 6; index++) {
            Checks.due("result(" + index + ")", station.result(index), results[7 - index]);
        }
        Checks.dueIndexOutOfBounds("result(6)", station, () -> station.result(6));
        Checks.dueIndexOutOfBounds("result(-1)", station, () -> station.result(-1));
        station.undo();
        Checks.due("result(5) undone", station.result(5), results[1]);
        AirStation other = new AirStation();
        other.leakTest(1);
        Checks.dueIndexOutOfBounds("result(1) of one", other, () -> other.result(1));
    }

    private static void promise16Next() {
        AirStation station = three();
        Checks.dueIndexOutOfBounds("next(3)", station, () -> station.next(3));
        Checks.dueIndexOutOfBounds("next(-1)", station, () -> station.next(-1));
        Checks.due("it loads", station.next(0), 2);
        Checks.due("it stays off", station.next(2), 7);
        station.trip(2);
        Checks.due("it is tripped", station.next(2), 0);
        station.clear(2);
        Checks.due("its rest goes on", station.next(2), 1);
        station.pass(1);
        Checks.due("it stays loaded", station.next(0), 3);
        station.pass(1);
        Checks.due("its rest goes on for the last minute", station.next(2), 1);
        Checks.due("it unloads", station.next(0), 4);
        station.pass(1);
        Checks.due("it stays off", station.next(2), 7);
        Checks.due("it stays unloaded", station.next(0), 5);
        station.pass(3);
        Checks.due("it stays unloaded", station.next(0), 5);
        station.pass(1);
        Checks.due("it is off by its timer", station.next(0), 6);
        station.set(0, 7601);
        Checks.due("it loads from being unloaded", station.next(0), 2);
        station.set(0, 7600);
        Checks.due("it is not below the limit", station.next(0), 6);
        station.set(3, 6);
        Checks.due("the unloaded time is longer", station.next(0), 5);
        station.set(3, 1);
        Checks.due("the unloaded time is shorter", station.next(0), 6);
        station.pass(1);
        Checks.due("its rest goes on", station.next(0), 1);
    }

    private static void promise16NextLooksAtNoRotation() {
        AirStation station = three();
        station.set(7, 10);
        station.setVolume(975);
        station.trip(1);
        station.trip(2);
        station.clear(2);
        // what compressor 0 delivers is what the demand takes, so that the pressure stays at 6153
        station.set(6, 400);
        station.pass(10);
        Checks.due("loaded minutes", station.compressor(0, 3), 10);
        Checks.due("the air", station.value(1), 6000);
        Checks.due("next(0) as it stands", station.next(0), 3);
        Checks.due("next(2) as it stands", station.next(2), 7);
        station.set(0, 5900);
        // 6153 is above 6100, the limit of stage 2, and not above 6500, that of stage 0
        Checks.due("next(0) as it stands", station.next(0), 3);
        station.pass(1);
        Checks.due("compressor 0 at stage 2", station.compressor(0, 1), 2);
    }
}
