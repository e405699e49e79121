/** What happens when a minute passes, as the document's terms tell it: the bands and the steps 1 to 5. */
public final class MinuteTest {
    public static void main(String[] args) {
        bandsAreNested();
        limitsAreStrict();
        oneCompressorGoesRound();
        unloadedOneLoadsAgain();
        timerFollowsTheSetting();
        restGoesOnMinuteByMinute();
        noRestLoadsInTheNextMinute();
        allAreLookedAtWithTheSamePressure();
        rotationByLoadedMinutes();
        rotationComesAheadOfStep2();
        rotationTimeIsAtLeast();
        leakIsTakenFromThePressureBefore();
        leakIsTakenAheadOfTheDemand();
        unmetIsWhatTheDemandLacks();
        reliefValve();
        reliefValveRoundsDown();
        energyIsBooked();
        Checks.end();
    }

    /** A station in which neither the leak nor the demand moves the air. */
    private static AirStation still() {
        AirStation station = new AirStation();
        station.set(5, 0);
        station.set(6, 0);
        return station;
    }

    private static void bandsAreNested() {
        AirStation station = new AirStation();
        int[] loads = {6300, 6100, 5900, 5700, 5500};
        int[] unloads = {7500, 7300, 7100, 6900, 6700};
        for (int number = 0; number < 5; number++) {
            station.addCompressor(100);
        }
        for (int number = 0; number < 5; number++) {
            Checks.due("limit for loading of " + number, station.compressor(number, 8), loads[number]);
            Checks.due("limit for unloading of " + number, station.compressor(number, 9), unloads[number]);
        }
        station.trip(0);
        Checks.due("a tripped one is counted", station.compressor(1, 9), 7300);
        station.set(0, 1000);
        station.set(1, 500);
        Checks.due("a limit below 0", station.compressor(4, 8), -1500);
        Checks.due("the highest limit of the first", station.compressor(0, 9), 3500);
    }

    private static void limitsAreStrict() {
        AirStation station = still();
        station.addCompressor(100);
        station.set(0, 6200);
        Checks.due("at the limit for loading", station.next(0), 7);
        Checks.due("pass(1)", station.pass(1), 6000);
        station.set(0, 6201);
        Checks.due("below the limit for loading", station.next(0), 2);
        Checks.due("pass(1)", station.pass(1), 6100);
        station.set(0, 5900);
        Checks.due("at the limit for unloading", station.next(0), 3);
        Checks.due("pass(1)", station.pass(1), 6200);
        station.set(0, 6001);
        Checks.due("below the limit for unloading", station.next(0), 3);
        station.set(0, 5999);
        Checks.due("above the limit for unloading", station.next(0), 4);
        Checks.due("pass(1)", station.pass(1), 6200);
        Checks.due("unloaded", station.compressor(0, 1), 2);
    }

    private static void oneCompressorGoesRound() {
        AirStation station = still();
        station.addCompressor(100);
        Checks.due("seven minutes", station.pass(7), 6700);
        Checks.dueCompressor("at the limit", station, 0, 100, 1, 0, 7, 0, 0, 0, 1);
        Checks.due("the eighth minute", station.pass(1), 6800);
        Checks.due("the ninth minute", station.pass(1), 6800);
        Checks.dueCompressor("unloaded", station, 0, 100, 2, 0, 8, 1, 0, 0, 1);
        Checks.due("four minutes more", station.pass(4), 6800);
        Checks.dueCompressor("timer 4", station, 0, 100, 2, 0, 8, 5, 4, 0, 1);
        station.pass(1);
        Checks.dueCompressor("off by the timer", station, 0, 100, 0, 0, 8, 5, 0, 3, 1);
        Checks.dueBooked("a round", station, 800, 0, 0, 0, 0, 8 * 1000 + 5 * 300);
        station.set(0, 7500);
        station.pass(1);
        Checks.dueCompressor("resting", station, 0, 100, 0, 0, 8, 5, 0, 2, 1);
        station.pass(2);
        Checks.dueCompressor("rested", station, 0, 100, 0, 0, 8, 5, 0, 0, 1);
        station.pass(1);
        Checks.dueCompressor("loaded again", station, 0, 100, 1, 0, 9, 5, 0, 0, 2);
        Checks.dueValues("loaded again", station, 1000, 6900, 6900, 1, 1, 0, 0, 18, 18, 0, 100, 0);
    }

    private static void unloadedOneLoadsAgain() {
        AirStation station = still();
        station.addCompressor(400);
        station.pass(5);
        Checks.dueCompressor("unloaded", station, 0, 400, 2, 0, 2, 3, 2, 0, 1);
        station.set(0, 7001);
        station.pass(1);
        Checks.dueCompressor("loaded, no start", station, 0, 400, 1, 0, 3, 3, 0, 0, 1);
        station.set(0, 6500);
        station.pass(1);
        Checks.dueCompressor("the timer begins anew", station, 0, 400, 2, 0, 3, 4, 0, 0, 1);
    }

    private static void timerFollowsTheSetting() {
        AirStation station = still();
        station.addCompressor(400);
        station.set(3, 1);
        station.pass(3);
        Checks.dueCompressor("unloaded", station, 0, 400, 2, 0, 2, 1, 0, 0, 1);
        station.pass(1);
        Checks.dueCompressor("off", station, 0, 400, 0, 0, 2, 1, 0, 3, 1);
        AirStation slow = still();
        slow.addCompressor(400);
        slow.pass(7);
        Checks.due("timer 4", slow.compressor(0, 5), 4);
        slow.set(3, 2);
        slow.pass(1);
        Checks.dueCompressor("more than the unloaded time", slow, 0, 400, 0, 0, 2, 5, 0, 3, 1);
    }

    private static void restGoesOnMinuteByMinute() {
        AirStation station = still();
        station.addCompressor(100);
        station.set(4, 2);
        station.trip(0);
        station.clear(0);
        int[] rests = {1, 0, 0};
        int[] states = {0, 0, 1};
        int[] airs = {6000, 6000, 6100};
        for (int minute = 0; minute < 3; minute++) {
            Checks.due("minute " + minute, station.pass(1), airs[minute]);
            Checks.due("rest in minute " + minute, station.compressor(0, 6), rests[minute]);
            Checks.due("state in minute " + minute, station.compressor(0, 1), states[minute]);
        }
        Checks.due("starts", station.compressor(0, 7), 1);
    }

    private static void noRestLoadsInTheNextMinute() {
        AirStation station = still();
        station.addCompressor(100);
        station.set(4, 0);
        station.trip(0);
        station.clear(0);
        Checks.due("pass(1)", station.pass(1), 6100);
    }

    private static void allAreLookedAtWithTheSamePressure() {
        AirStation station = still();
        station.addCompressor(500);
        station.addCompressor(10);
        // what the first one delivers would take the pressure above the limit of the second one
        Checks.due("pass(1)", station.pass(1), 6510);
        Checks.due("value(4)", station.value(4), 2);
        Checks.due("value(10)", station.value(10), 510);
    }

    private static void rotationByLoadedMinutes() {
        AirStation station = still();
        station.addCompressor(10);
        station.addCompressor(20);
        station.addCompressor(30);
        station.set(7, 10);
        station.trip(1);
        // only compressor 0 is below its limit: it has ten minutes, the others none
        station.setVolume(970);
        station.pass(10);
        Checks.dueValues("ten minutes", station, 970, 6100, 6288, 3, 1, 0, 1, 10, 10, 0);
        station.pass(1);
        Checks.dueValues("eleven minutes", station, 970, 6110, 6298, 3, 1, 0, 1, 11, 1, 1);
        Checks.due("atStage(0)", station.atStage(0), 1);
        Checks.due("atStage(1)", station.atStage(1), 2);
        Checks.due("atStage(2)", station.atStage(2), 0);
        station.pass(9);
        Checks.due("rotations", station.value(9), 1);
        station.pass(1);
        Checks.due("rotations", station.value(9), 2);
        Checks.due("minutes since", station.value(8), 1);
    }

    private static void rotationComesAheadOfStep2() {
        AirStation station = still();
        station.addCompressor(10);
        station.addCompressor(20);
        station.setVolume(970);
        station.pass(10);
        station.set(7, 10);
        // 6288 is below 6300, the limit of stage 0, to which compressor 1 comes
        Checks.due("next(1) without a rotation", station.next(1), 7);
        Checks.due("pass(1)", station.pass(1), (6100 + 10 + 20) * 1000 / 970);
        Checks.due("compressor 1", station.compressor(1, 1), 1);
    }

    private static void rotationTimeIsAtLeast() {
        AirStation station = still();
        station.pass(30);
        Checks.due("rotations", station.value(9), 0);
        station.set(7, 20);
        station.pass(1);
        Checks.due("rotations", station.value(9), 1);
        Checks.due("minutes since", station.value(8), 1);
        station.pass(19);
        Checks.due("rotations", station.value(9), 1);
        station.pass(1);
        Checks.due("rotations", station.value(9), 2);
        station.rotate();
        Checks.due("minutes since a call", station.value(8), 0);
        station.pass(20);
        Checks.due("rotations", station.value(9), 3);
        station.pass(1);
        Checks.due("rotations", station.value(9), 4);
    }

    private static void leakIsTakenFromThePressureBefore() {
        AirStation station = still();
        station.addCompressor(500);
        station.set(5, 50);
        Checks.due("pass(1)", station.pass(1), 6000 + 500 - 300);
        AirStation large = still();
        large.setVolume(2000);
        large.set(5, 7);
        // 3000 * 7 / 1000 = 21 liters, whatever the volume
        large.pass(1);
        Checks.due("the leak", large.booked(1), 21);
        large.pass(1);
        // 5979 liters are at 2989 millibars: 20.9 liters
        Checks.due("the leak", large.booked(1), 41);
    }

    private static void leakIsTakenAheadOfTheDemand() {
        AirStation station = new AirStation();
        station.set(5, 50);
        station.set(6, 3000);
        station.pass(1);
        Checks.dueBooked("a minute", station, 0, 300, 3000, 0);
        station.pass(1);
        // 2700 liters: the leak takes 135 of them, 2565 are left
        Checks.dueBooked("two minutes", station, 0, 435, 5565, 435);
        Checks.due("the air", station.value(1), 0);
    }

    private static void unmetIsWhatTheDemandLacks() {
        AirStation station = new AirStation();
        station.set(5, 0);
        station.set(6, 3000);
        station.pass(2);
        Checks.dueBooked("all of it", station, 0, 0, 6000, 0, 0);
        station.addCompressor(100);
        station.pass(3);
        Checks.dueBooked("what is delivered", station, 300, 0, 6300, 8700, 0);
    }

    private static void reliefValve() {
        AirStation station = still();
        station.addCompressor(100);
        station.set(2, 6100);
        Checks.due("at the relief pressure", station.pass(1), 6100);
        Checks.due("blown off", station.booked(4), 0);
        Checks.due("above it", station.pass(1), 6100);
        Checks.due("blown off", station.booked(4), 100);
        station.set(6, 60);
        Checks.due("the demand is taken ahead", station.pass(1), 6100);
        Checks.due("blown off", station.booked(4), 140);
        station.set(2, 2000);
        Checks.due("no minute", station.value(1), 6100);
        station.trip(0);
        station.pass(1);
        Checks.dueBooked("all in one minute", station, 300, 0, 120, 0, 140 + 6040 - 2000);
    }

    private static void reliefValveRoundsDown() {
        AirStation station = still();
        station.setVolume(997);
        station.set(2, 6018);
        // 6000 liters are at 6018.05 millibars, which is 6018
        Checks.due("pass(1)", station.pass(1), 6018);
        Checks.due("blown off", station.booked(4), 0);
        station.set(2, 6017);
        // 6017 * 997 / 1000 = 5998.9
        Checks.due("pass(1)", station.pass(1), 6016);
        Checks.due("the air", station.value(1), 5998);
        Checks.due("blown off", station.booked(4), 2);
    }

    private static void energyIsBooked() {
        AirStation station = still();
        station.addCompressor(400);
        station.addCompressor(50);
        station.trip(1);
        station.pass(2);
        Checks.due("loaded", station.booked(5), 2 * 4000);
        Checks.due("delivered", station.booked(0), 800);
        // 6800 is not above 6900
        station.pass(1);
        Checks.due("loaded", station.booked(5), 3 * 4000);
        station.pass(5);
        Checks.due("unloaded", station.booked(5), 3 * 4000 + 5 * 1200);
        station.pass(50);
        Checks.due("off", station.booked(5), 3 * 4000 + 5 * 1200);
    }
}
