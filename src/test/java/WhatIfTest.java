/** Promises 17 to 22: the questions, which change nothing. */
public final class WhatIfTest {
    public static void main(String[] args) {
        promise17PressureIn();
        promise17PressureInRotates();
        promise18MinutesToLoad();
        promise18MinutesToLoadEdges();
        promise18MinutesToLoadRotates();
        promise19CanServe();
        promise20EnergyWith();
        promise20EnergyWithIsOfTheMinutesAlone();
        promise21BestOrderByUnmet();
        promise21BestOrderByEnergy();
        promise21BestOrderOfFive();
        promise21BestOrderOfLikeOnes();
        promise21BestOrderRotates();
        promise21BestOrderThrows();
        promise22LoadedShare();
        questionsGoBeyondTheLatestTime();
        Checks.end();
    }

    private static AirStation still() {
        AirStation station = new AirStation();
        station.set(5, 0);
        station.set(6, 0);
        return station;
    }

    private static void promise17PressureIn() {
        AirStation station = still();
        station.addCompressor(100);
        long before = station.digest();
        Checks.dueIllegalArgument("pressureIn(-1)", station, () -> station.pressureIn(-1));
        Checks.dueIllegalArgument("pressureIn(601)", station, () -> station.pressureIn(601));
        Checks.due("pressureIn(0)", station.pressureIn(0), 6000);
        Checks.due("pressureIn(1)", station.pressureIn(1), 6100);
        Checks.due("pressureIn(8)", station.pressureIn(8), 6800);
        Checks.due("pressureIn(600)", station.pressureIn(600), 6800);
        Checks.due("the digest", station.digest(), before);
        station.set(6, 30);
        int asked = station.pressureIn(100);
        Checks.due("what comes", station.pass(100), asked);
    }

    private static void promise17PressureInRotates() {
        AirStation station = still();
        station.addCompressor(10);
        station.addCompressor(20);
        station.set(7, 10);
        station.setVolume(970);
        // the rotation in the eleventh minute brings compressor 1 to stage 0 with 6288
        Checks.due("pressureIn(10)", station.pressureIn(10), 6100 * 1000 / 970);
        Checks.due("pressureIn(11)", station.pressureIn(11), 6130 * 1000 / 970);
        Checks.due("the rotations", station.value(9), 0);
    }

    private static void promise18MinutesToLoad() {
        AirStation station = still();
        Checks.due("of none", station.minutesToLoad(), AirStation.NONE);
        station.addCompressor(100);
        long before = station.digest();
        Checks.due("in the next minute", station.minutesToLoad(), 1);
        Checks.due("the digest", station.digest(), before);
        station.trip(0);
        Checks.due("of a tripped one", station.minutesToLoad(), AirStation.NONE);
        station.clear(0);
        Checks.due("behind its rest", station.minutesToLoad(), 4);
        station.undo();
        station.undo();
        station.pass(1);
        Checks.due("it is loaded and does not become so", station.minutesToLoad(), AirStation.NONE);
        station.set(6, 50);
        station.set(3, 60);
        // 6100, 6150, .. 6750 is above 6700 behind 13 minutes; unloaded in the 14th one, that ends with 6700;
        // 6300 is reached behind 8 more, and the ninth of them ends with 6250, below the limit
        Checks.due("from being unloaded", station.minutesToLoad(), 24);
    }

    private static void promise18MinutesToLoadEdges() {
        AirStation station = still();
        station.addCompressor(10);
        station.set(0, 6100);
        station.set(6, 1);
        // the limit is 5900: 101 minutes of demand bring the air below it
        Checks.due("minutesToLoad()", station.minutesToLoad(), 102);
        station.set(0, 5602);
        // the limit is 5402: behind 599 minutes there are 5401 liters
        Checks.due("in the minute 600", station.minutesToLoad(), 600);
        station.set(0, 5601);
        Checks.due("in the minute 601", station.minutesToLoad(), AirStation.NONE);
    }

    private static void promise18MinutesToLoadRotates() {
        AirStation station = still();
        station.addCompressor(10);
        station.addCompressor(20);
        station.setVolume(970);
        station.set(7, 10);
        station.pass(5);
        // 6288 is below 6300, the limit of stage 0, to which compressor 1 comes
        Checks.due("with the rotation's minute", station.minutesToLoad(), 6);
    }

    private static void promise19CanServe() {
        AirStation station = new AirStation();
        Checks.due("of none", station.canServe(0), 0);
        station.addCompressor(100);
        station.addCompressor(45);
        station.addCompressor(300);
        Checks.dueIllegalArgument("canServe(-1)", station, () -> station.canServe(-1));
        Checks.dueIllegalArgument("canServe(16001)", station, () -> station.canServe(16001));
        Checks.due("canServe(0)", station.canServe(0), 445);
        Checks.due("canServe(499)", station.canServe(499), 445);
        Checks.due("canServe(500)", station.canServe(500), 444);
        Checks.due("canServe(16000)", station.canServe(16000), 413);
        station.trip(2);
        Checks.due("without a tripped one", station.canServe(6500), 132);
        station.pass(1);
        Checks.due("with loaded ones", station.canServe(6500), 132);
        station.set(0, 5000);
        station.pass(1);
        Checks.due("with unloaded ones", station.canServe(6500), 132);
        station.set(5, 9);
        Checks.due("canServe(16000)", station.canServe(16000), 1);
        station.set(5, 10);
        Checks.due("less than nothing", station.canServe(16000), 0);
        Checks.due("canServe(14400)", station.canServe(14400), 1);
    }

    private static void promise20EnergyWith() {
        AirStation station = still();
        station.addCompressor(100);
        station.addCompressor(10);
        long before = station.digest();
        Checks.dueIllegalArgument("energyWith(9, 1)", station, () -> station.energyWith(9, 1));
        Checks.dueIllegalArgument("energyWith(501, 1)", station, () -> station.energyWith(501, 1));
        Checks.dueIllegalArgument("energyWith(10, 0)", station, () -> station.energyWith(10, 0));
        Checks.dueIllegalArgument("energyWith(10, 601)", station, () -> station.energyWith(10, 601));
        // limits for loading: 6300 and 6100; both load
        Checks.due("energyWith(200, 1)", station.energyWith(200, 1), 1100);
        // 6250 and 6000: the first one alone
        Checks.due("energyWith(250, 1)", station.energyWith(250, 1), 1000);
        // 6000 and 5500: none
        Checks.due("energyWith(500, 1)", station.energyWith(500, 1), 0);
        Checks.due("energyWith(500, 600)", station.energyWith(500, 600), 0);
        // with 10 they unload above 6520 and 6510: there are 6550 behind five minutes
        Checks.due("energyWith(10, 5)", station.energyWith(10, 5), 5500);
        Checks.due("energyWith(10, 6)", station.energyWith(10, 6), 5830);
        Checks.due("energyWith(10, 600)", station.energyWith(10, 600), 5500 + 5 * 330);
        Checks.due("the digest", station.digest(), before);
        Checks.due("setting(1)", station.setting(1), 200);
    }

    private static void promise20EnergyWithIsOfTheMinutesAlone() {
        AirStation station = still();
        station.addCompressor(400);
        station.pass(2);
        Checks.due("booked(5)", station.booked(5), 8000);
        // 6800 is above 6700, and no more than 7000 with 500
        Checks.due("energyWith(200, 1)", station.energyWith(200, 1), 1200);
        Checks.due("energyWith(200, 600)", station.energyWith(200, 600), 6000);
        Checks.due("energyWith(500, 1)", station.energyWith(500, 1), 4000);
        Checks.due("energyWith(300, 1)", station.energyWith(300, 1), 4000);
        Checks.due("energyWith(299, 1)", station.energyWith(299, 1), 1200);
    }

    private static void promise21BestOrderByUnmet() {
        AirStation station = new AirStation();
        station.addCompressor(50);
        station.addCompressor(300);
        station.addCompressor(100);
        station.set(5, 0);
        station.setVolume(970);
        station.set(6, 3000);
        long before = station.digest();
        // 6185 is below 6300 alone: only the one of stage 0 loads in the first minute, so that the most
        // that can be met comes of the largest one there; the others like the lower number first
        Checks.due("bestOrder(30, 0)", station.bestOrder(30, 0), 1);
        Checks.due("bestOrder(30, 1)", station.bestOrder(30, 1), 0);
        Checks.due("bestOrder(30, 2)", station.bestOrder(30, 2), 2);
        // in one minute nothing is unmet: the least energy is that of the smallest one at stage 0
        Checks.due("bestOrder(1, 0)", station.bestOrder(1, 0), 0);
        Checks.due("the digest", station.digest(), before);
    }

    private static void promise21BestOrderByEnergy() {
        AirStation station = still();
        station.addCompressor(300);
        station.addCompressor(200);
        station.addCompressor(100);
        station.set(0, 6500);
        // limits for loading 6300, 6100, 5900: those of stages 0 and 1 load, the largest one is best left last
        Checks.due("bestOrder(1, 0)", station.bestOrder(1, 0), 1);
        Checks.due("bestOrder(1, 1)", station.bestOrder(1, 1), 2);
        Checks.due("bestOrder(1, 2)", station.bestOrder(1, 2), 0);
        station.trip(2);
        // a tripped one at stage 0 or 1 saves most; of these orders the first one is 1, 2, 0
        Checks.due("bestOrder(1, 0)", station.bestOrder(1, 0), 1);
        Checks.due("bestOrder(1, 1)", station.bestOrder(1, 1), 2);
        Checks.due("the present order stays", station.atStage(0), 0);
    }

    private static void promise21BestOrderOfFive() {
        AirStation station = still();
        int[] capacities = {200, 100, 400, 300, 500};
        for (int capacity : capacities) {
            station.addCompressor(capacity);
        }
        // limits for loading 6300, 6100, 5900, 5700, 5500: those of the stages 0 and 1 load, the smallest ones
        dueBestOrder("the least energy in one minute", station, 1, 0, 1, 2, 3, 4);
        station.set(6, 3000);
        station.set(0, 6150);
        // 5882 is below 5950 alone: only the one of stage 0 loads in the first minute, all do from then on;
        // the fourth minute is the first one in which not all of the demand is met
        station.setVolume(1020);
        dueBestOrder("the least energy in three minutes", station, 3, 1, 0, 2, 3, 4);
        dueBestOrder("the most air in four minutes", station, 4, 4, 0, 1, 2, 3);
    }

    private static void dueBestOrder(String told, AirStation station, int minutes, int... want) {
        for (int stage = 0; stage < want.length; stage++) {
            Checks.due(told + ": bestOrder(" + minutes + ", " + stage + ")", station.bestOrder(minutes, stage),
                    want[stage]);
        }
    }

    private static void promise21BestOrderOfLikeOnes() {
        AirStation station = new AirStation();
        for (int number = 0; number < 5; number++) {
            station.addCompressor(100);
        }
        station.pass(1);
        station.rotate();
        Checks.due("the present order", station.atStage(0), 2);
        station.set(0, 1000);
        // none loads, and none that is loaded goes on longer in one order than in another
        for (int number = 0; number < 5; number++) {
            station.trip(number);
        }
        for (int stage = 0; stage < 5; stage++) {
            Checks.due("bestOrder(30, " + stage + ")", station.bestOrder(30, stage), stage);
        }
        AirStation one = new AirStation();
        one.addCompressor(10);
        Checks.due("bestOrder(1, 0) of one", one.bestOrder(1, 0), 0);
    }

    private static void promise21BestOrderRotates() {
        AirStation station = still();
        station.addCompressor(300);
        station.addCompressor(100);
        station.set(4, 0);
        station.set(6, 300);
        station.set(7, 10);
        station.setVolume(970);
        // 6185 is below 6300 alone, and what compressor 0 delivers is what the demand takes
        station.pass(8);
        station.set(6, 0);
        station.trip(0);
        station.clear(0);
        // the rotation comes in the third minute
        Checks.due("bestOrder(1, 0)", station.bestOrder(1, 0), 1);
        Checks.due("bestOrder(1, 1)", station.bestOrder(1, 1), 0);
        Checks.due("bestOrder(30, 0)", station.bestOrder(30, 0), 1);
        station.trip(0);
        Checks.due("nothing moves", station.pass(2), 6185);
        station.clear(0);
        // the rotation comes first in the next minute: every order is as good
        Checks.due("bestOrder(1, 0)", station.bestOrder(1, 0), 0);
        Checks.due("bestOrder(1, 1)", station.bestOrder(1, 1), 1);
        Checks.due("bestOrder(30, 0)", station.bestOrder(30, 0), 0);
        Checks.due("rotations", station.value(9), 0);
    }

    private static void promise21BestOrderThrows() {
        AirStation station = new AirStation();
        Checks.dueIllegalArgument("bestOrder(0, 0) of none", station, () -> station.bestOrder(0, 0));
        Checks.dueIndexOutOfBounds("bestOrder(1, 0) of none", station, () -> station.bestOrder(1, 0));
        station.addCompressor(10);
        station.addCompressor(20);
        Checks.dueIllegalArgument("bestOrder(0, 2)", station, () -> station.bestOrder(0, 2));
        Checks.dueIllegalArgument("bestOrder(31, -1)", station, () -> station.bestOrder(31, -1));
        Checks.dueIndexOutOfBounds("bestOrder(30, 2)", station, () -> station.bestOrder(30, 2));
        Checks.dueIndexOutOfBounds("bestOrder(1, -1)", station, () -> station.bestOrder(1, -1));
        Checks.due("bestOrder(30, 1)", station.bestOrder(30, 1) + station.bestOrder(30, 0), 1);
    }

    private static void promise22LoadedShare() {
        AirStation station = still();
        Checks.dueDouble("of no energy", station.loadedShare(), 0.0);
        station.addCompressor(400);
        Checks.dueDouble("of no energy", station.loadedShare(), 0.0);
        station.pass(2);
        Checks.dueDouble("all loaded", station.loadedShare(), 1.0);
        station.pass(1);
        Checks.dueDouble("8000 of 9200", station.loadedShare(), 8000.0 / 9200.0);
        station.pass(100);
        Checks.dueDouble("8000 of 14000", station.loadedShare(), 8000.0 / 14000.0);
        station.addCompressor(30);
        station.set(0, 12000);
        station.pass(1);
        Checks.dueDouble("12300 of 18300", station.loadedShare(), 12300.0 / 18300.0);
        station.trip(0);
        Checks.dueDouble("a tripped one is counted", station.loadedShare(), 12300.0 / 18300.0);
    }

    private static void questionsGoBeyondTheLatestTime() {
        AirStation station = new AirStation();
        station.addCompressor(100);
        for (int turn = 0; turn < 166; turn++) {
            station.pass(600);
        }
        station.pass(400);
        station.trip(0);
        station.clear(0);
        station.set(6, 0);
        station.set(5, 0);
        station.set(0, 12000);
        int air = station.value(2);
        Checks.due("pressureIn(4)", station.pressureIn(4), air + 100);
        Checks.due("minutesToLoad()", station.minutesToLoad(), 4);
        Checks.due("energyWith(10, 5)", station.energyWith(10, 5), 2000);
        Checks.due("bestOrder(30, 0)", station.bestOrder(30, 0), 0);
        Checks.due("the time", station.value(7), 100000);
    }
}
