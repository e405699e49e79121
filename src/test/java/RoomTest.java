import java.lang.management.ManagementFactory;
import java.lang.management.ThreadMXBean;

/** All calls of one run live in one room: what a station makes, it makes in its constructor. */
public final class RoomTest {
    private static final long FOR_ONE_STATION = 20000;
    // a call that makes an array or an object each time would take at least this much in 450 calls
    private static final long FOR_ALL_CALLS = 450 * 16;

    public static void main(String[] args) {
        ThreadMXBean threads = ManagementFactory.getThreadMXBean();
        if (!(threads instanceof com.sun.management.ThreadMXBean)) {
            System.out.println("the machine does not tell what a thread makes");
            return;
        }
        com.sun.management.ThreadMXBean counter = (com.sun.management.ThreadMXBean) threads;
        takenByCalls(counter);
        Checks.due("room of a station", takenByStation(counter) <= FOR_ONE_STATION ? 1 : 0, 1);
        for (int kind = 0; kind < 14; kind++) {
            long taken = takenByCallsOf(counter, kind);
            Checks.due("room of 450 calls of kind " + kind + ", " + taken, taken < FOR_ALL_CALLS ? 1 : 0, 1);
        }
        Checks.end();
    }

    private static void takenByCalls(com.sun.management.ThreadMXBean counter) {
        for (int kind = 0; kind < 14; kind++) {
            takenByCallsOf(counter, kind);
        }
        takenByStation(counter);
    }

    private static long takenByStation(com.sun.management.ThreadMXBean counter) {
        long before = counter.getCurrentThreadAllocatedBytes();
        AirStation station = new AirStation();
        return counter.getCurrentThreadAllocatedBytes() - before + Math.min(0, station.value(7));
    }

    private static long takenByCallsOf(com.sun.management.ThreadMXBean counter, int kind) {
        AirStation station = new AirStation();
        for (int number = 0; number < 5; number++) {
            station.addCompressor(100 * number + 50);
        }
        for (char value : "d200;m600;r;t1;c1;m600;".toCharArray()) {
            station.append(value);
        }
        long before = counter.getCurrentThreadAllocatedBytes();
        long sum = 0;
        for (int turn = 0; turn < 450; turn++) {
            sum += call(station, kind);
        }
        long taken = counter.getCurrentThreadAllocatedBytes() - before;
        return sum == Long.MIN_VALUE ? sum : taken;
    }

    private static long call(AirStation station, int kind) {
        switch (kind) {
            case 0: return station.setVolume(2000);
            case 1: return station.set(6, 500);
            case 2: return station.rotate();
            case 3: return station.value(7) < 90000 ? station.pass(200) : 0;
            case 4: return station.leakTest(60);
            case 5: return station.compressor(4, 9);
            case 6: return station.value(10);
            case 7: return station.next(4);
            case 8: return station.pressureIn(600);
            case 9: return station.minutesToLoad();
            case 10: return station.energyWith(100, 600);
            case 11: return station.bestOrder(30, 4);
            case 12: return station.value(7) < 90000 ? station.carryOut() : station.undo();
            default: return station.digest();
        }
    }
}
