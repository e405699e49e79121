import java.util.ArrayDeque;
import java.util.ArrayList;
import java.util.Deque;
import java.util.List;
import java.util.regex.Matcher;
import java.util.regex.Pattern;

/**
 * The document once more, written for the tests in the plainest words and in another way: the order is a list,
 * a state is copied as a whole, all orders are made as lists, and a text is read by patterns.
 */
final class PlainStation {
    private static final int[] LEAST = {1000, 10, 2000, 1, 0, 0, 0, 10};
    private static final int[] GREATEST = {12000, 500, 16000, 60, 30, 50, 3000, 5000};
    private static final Pattern ORDERS = Pattern.compile("(d[0-9]{1,4};|m[0-9]{1,3};|[tc][0-4];|r;)*");
    private static final Pattern NUMBER = Pattern.compile("(d[0-9]{1,4}|m[0-9]{1,3})(?![0-9])");
    private static final Pattern ORDER = Pattern.compile("([dmtcr])([0-9]*);");

    private static final class Unit {
        final int number;
        final int capacity;
        String mode = "off";
        int loadedMinutes;
        int unloadedMinutes;
        int timer;
        int rest;
        int starts;

        Unit(int number, int capacity) {
            this.number = number;
            this.capacity = capacity;
        }

        Unit copy() {
            Unit other = new Unit(number, capacity);
            other.mode = mode;
            other.loadedMinutes = loadedMinutes;
            other.unloadedMinutes = unloadedMinutes;
            other.timer = timer;
            other.rest = rest;
            other.starts = starts;
            return other;
        }
    }

    private static final class World {
        long volume = 1000;
        long air = 6000;
        int time;
        int since;
        int rotations;
        int[] settings = {6500, 200, 10000, 5, 3, 2, 100, 480};
        long[] booked = new long[6];
        List<Unit> units = new ArrayList<>();
        List<Integer> order = new ArrayList<>();
        List<Integer> results = new ArrayList<>();

        World copy() {
            World other = new World();
            other.volume = volume;
            other.air = air;
            other.time = time;
            other.since = since;
            other.rotations = rotations;
            other.settings = settings.clone();
            other.booked = booked.clone();
            for (Unit unit : units) {
                other.units.add(unit.copy());
            }
            other.order.addAll(order);
            other.results.addAll(results);
            return other;
        }

        int pressure() {
            return (int) (air * 1000 / volume);
        }

        int loadBelow(int stage) {
            return settings[0] - (stage + 1) * settings[1];
        }

        int unloadAbove(int stage) {
            return settings[0] + (units.size() - stage) * settings[1];
        }

        void rotate() {
            order.sort((one, other) -> {
                int byMinutes = units.get(one).loadedMinutes - units.get(other).loadedMinutes;
                return byMinutes != 0 ? byMinutes : one - other;
            });
            since = 0;
            rotations++;
        }

        boolean lookAtUnits(long pressure) {
            boolean loads = false;
            for (int stage = 0; stage < order.size(); stage++) {
                Unit unit = units.get(order.get(stage));
                if (unit.mode.equals("tripped")) {
                    continue;
                }
                if (unit.mode.equals("off") && unit.rest > 0) {
                    unit.rest--;
                    continue;
                }
                boolean wasUnloaded = unit.mode.equals("unloaded");
                if (!unit.mode.equals("loaded") && pressure < loadBelow(stage)) {
                    unit.starts += unit.mode.equals("off") ? 1 : 0;
                    unit.mode = "loaded";
                    unit.timer = 0;
                    loads = true;
                } else if (unit.mode.equals("loaded") && pressure > unloadAbove(stage)) {
                    unit.mode = "unloaded";
                    unit.timer = 0;
                }
                if (unit.mode.equals("unloaded") && wasUnloaded) {
                    unit.timer++;
                    if (unit.timer >= settings[3]) {
                        unit.mode = "off";
                        unit.timer = 0;
                        unit.rest = settings[4];
                    }
                }
            }
            return loads;
        }

        boolean minute(boolean leakTest) {
            if (since >= settings[7]) {
                rotate();
            }
            long pressure = pressure();
            boolean loads = !leakTest && lookAtUnits(pressure);
            for (Unit unit : units) {
                if (unit.mode.equals("loaded")) {
                    unit.loadedMinutes++;
                    air += unit.capacity;
                    booked[0] += unit.capacity;
                    booked[5] += 10L * unit.capacity;
                }
                if (unit.mode.equals("unloaded")) {
                    unit.unloadedMinutes++;
                    booked[5] += 3L * unit.capacity;
                }
            }
            long leak = Math.min(pressure * settings[5] / 1000, air);
            air -= leak;
            booked[1] += leak;
            if (!leakTest) {
                long taken = Math.min(settings[6], air);
                air -= taken;
                booked[2] += taken;
                booked[3] += settings[6] - taken;
            }
            if (pressure() > settings[2]) {
                long left = settings[2] * volume / 1000;
                booked[4] += air - left;
                air = left;
            }
            time++;
            since++;
            return loads;
        }

        void minutes(int minutes) {
            for (int minute = 0; minute < minutes; minute++) {
                minute(false);
            }
        }

        int stateOf(int number) {
            return List.of("off", "loaded", "unloaded", "tripped").indexOf(units.get(number).mode);
        }

        int count(String mode) {
            int found = 0;
            for (Unit unit : units) {
                found += unit.mode.equals(mode) ? 1 : 0;
            }
            return found;
        }
    }

    private World world = new World();
    private final StringBuilder text = new StringBuilder();
    private final Deque<World> saved = new ArrayDeque<>();

    private static void demand(boolean holds) {
        if (!holds) {
            throw new IllegalArgumentException();
        }
    }

    private static void demandState(boolean holds) {
        if (!holds) {
            throw new IllegalStateException();
        }
    }

    private static void demandIndex(int index, int size) {
        if (index < 0 || index >= size) {
            throw new IndexOutOfBoundsException();
        }
    }

    private void save() {
        saved.addLast(world.copy());
        if (saved.size() > 4) {
            saved.removeFirst();
        }
    }

    int setVolume(int volume) {
        demand(volume >= 100 && volume <= 5000);
        demandState(world.air * 1000 / volume <= world.settings[2]);
        save();
        world.volume = volume;
        return world.pressure();
    }

    int set(int what, int value) {
        demand(what >= 0 && what <= 7);
        demand(value >= LEAST[what] && value <= GREATEST[what]);
        save();
        int previous = world.settings[what];
        world.settings[what] = value;
        return previous;
    }

    int addCompressor(int capacity) {
        demand(capacity >= 10 && capacity <= 500);
        demandState(world.units.size() < 5);
        save();
        int number = world.units.size();
        world.units.add(new Unit(number, capacity));
        world.order.add(number);
        return number;
    }

    private int tripWithoutSaving(int number) {
        demandIndex(number, world.units.size());
        Unit unit = world.units.get(number);
        demandState(!unit.mode.equals("tripped"));
        int previous = world.stateOf(number);
        unit.mode = "tripped";
        unit.timer = 0;
        unit.rest = 0;
        return previous;
    }

    private int clearWithoutSaving(int number) {
        demandIndex(number, world.units.size());
        Unit unit = world.units.get(number);
        demandState(unit.mode.equals("tripped"));
        unit.mode = "off";
        unit.rest = world.settings[4];
        return world.order.indexOf(number);
    }

    int trip(int number) {
        World before = world.copy();
        int answer = tripWithoutSaving(number);
        saveThat(before);
        return answer;
    }

    int clear(int number) {
        World before = world.copy();
        int answer = clearWithoutSaving(number);
        saveThat(before);
        return answer;
    }

    private void saveThat(World before) {
        World now = world;
        world = before;
        save();
        world = now;
    }

    int rotate() {
        save();
        List<Integer> before = new ArrayList<>(world.order);
        world.rotate();
        int moved = 0;
        for (int stage = 0; stage < before.size(); stage++) {
            moved += before.get(stage).equals(world.order.get(stage)) ? 0 : 1;
        }
        return moved;
    }

    int pass(int minutes) {
        demand(minutes >= 1 && minutes <= 600);
        demandState(world.time + minutes <= 100000);
        save();
        world.minutes(minutes);
        return world.pressure();
    }

    int leakTest(int minutes) {
        demand(minutes >= 1 && minutes <= 60);
        demandState(world.time + minutes <= 100000);
        save();
        for (Unit unit : world.units) {
            if (unit.mode.equals("loaded")) {
                unit.mode = "unloaded";
                unit.timer = 0;
            }
        }
        long before = world.booked[1];
        for (int minute = 0; minute < minutes; minute++) {
            world.minute(true);
        }
        int result = (int) (world.booked[1] - before);
        world.results.add(0, result);
        if (world.results.size() > 6) {
            world.results.remove(6);
        }
        return result;
    }

    int compressor(int number, int what) {
        demandIndex(number, world.units.size());
        demand(what >= 0 && what <= 9);
        Unit unit = world.units.get(number);
        int stage = world.order.indexOf(number);
        int[] values = {unit.capacity, world.stateOf(number), stage, unit.loadedMinutes, unit.unloadedMinutes,
            unit.timer, unit.rest, unit.starts, world.loadBelow(stage), world.unloadAbove(stage)};
        return values[what];
    }

    int atStage(int stage) {
        demandIndex(stage, world.order.size());
        return world.order.get(stage);
    }

    int value(int what) {
        demand(what >= 0 && what <= 11);
        int loaded = 0;
        for (Unit unit : world.units) {
            loaded += unit.mode.equals("loaded") ? unit.capacity : 0;
        }
        long[] values = {world.volume, world.air, world.pressure(), world.units.size(), world.count("loaded"),
            world.count("unloaded"), world.count("tripped"), world.time, world.since, world.rotations, loaded,
            world.results.size()};
        return (int) values[what];
    }

    int setting(int what) {
        demand(what >= 0 && what <= 7);
        return world.settings[what];
    }

    long booked(int what) {
        demand(what >= 0 && what <= 5);
        return world.booked[what];
    }

    int result(int index) {
        demandIndex(index, world.results.size());
        return world.results.get(index);
    }

    /** Lets the step happen in a copy, and tells what the compressor did from what it was and is. */
    int next(int number) {
        demandIndex(number, world.units.size());
        World copy = world.copy();
        Unit was = world.units.get(number);
        Unit is = copy.units.get(number);
        copy.lookAtUnits(world.pressure());
        if (was.mode.equals("tripped")) {
            return 0;
        }
        if (was.mode.equals("off") && was.rest > 0) {
            return 1;
        }
        if (is.mode.equals("loaded")) {
            return was.mode.equals("loaded") ? 3 : 2;
        }
        if (is.mode.equals("unloaded")) {
            return was.mode.equals("loaded") ? 4 : 5;
        }
        return was.mode.equals("off") ? 7 : 6;
    }

    int pressureIn(int minutes) {
        demand(minutes >= 0 && minutes <= 600);
        World copy = world.copy();
        copy.minutes(minutes);
        return copy.pressure();
    }

    int minutesToLoad() {
        World copy = world.copy();
        for (int minute = 1; minute <= 600; minute++) {
            if (copy.minute(false)) {
                return minute;
            }
        }
        return -1;
    }

    int canServe(int pressure) {
        demand(pressure >= 0 && pressure <= 16000);
        int sum = 0;
        for (Unit unit : world.units) {
            sum += unit.mode.equals("tripped") ? 0 : unit.capacity;
        }
        int rest = sum - pressure * world.settings[5] / 1000;
        return rest < 0 ? 0 : rest;
    }

    int energyWith(int step, int minutes) {
        demand(step >= 10 && step <= 500);
        demand(minutes >= 1 && minutes <= 600);
        World copy = world.copy();
        copy.settings[1] = step;
        copy.minutes(minutes);
        return (int) (copy.booked[5] - world.booked[5]);
    }

    int bestOrder(int minutes, int stage) {
        demand(minutes >= 1 && minutes <= 30);
        demandIndex(stage, world.order.size());
        List<List<Integer>> orders = new ArrayList<>();
        allOrders(new ArrayList<>(), orders);
        List<Integer> best = null;
        long bestUnmet = 0;
        long bestEnergy = 0;
        for (List<Integer> order : orders) {
            World copy = world.copy();
            copy.order = new ArrayList<>(order);
            copy.minutes(minutes);
            long unmet = copy.booked[3] - world.booked[3];
            long energy = copy.booked[5] - world.booked[5];
            if (best == null || unmet < bestUnmet || unmet == bestUnmet && energy < bestEnergy) {
                best = order;
                bestUnmet = unmet;
                bestEnergy = energy;
            }
        }
        return best.get(stage);
    }

    private void allOrders(List<Integer> begun, List<List<Integer>> orders) {
        if (begun.size() == world.units.size()) {
            orders.add(new ArrayList<>(begun));
        }
        for (int number = 0; number < world.units.size(); number++) {
            if (!begun.contains(number)) {
                begun.add(number);
                allOrders(begun, orders);
                begun.remove(begun.size() - 1);
            }
        }
    }

    double loadedShare() {
        long sum = 0;
        for (Unit unit : world.units) {
            sum += (long) unit.capacity * unit.loadedMinutes;
        }
        return world.booked[5] == 0 ? 0.0 : (double) (10 * sum) / (double) world.booked[5];
    }

    int append(int value) {
        demand(value >= 0 && value <= 127);
        demandState(text.length() < 100);
        text.append((char) value);
        return text.length();
    }

    int clearText() {
        int length = text.length();
        text.setLength(0);
        return length;
    }

    /** The first byte with which no text begins as this one does, or the end; or a number that is told before. */
    private int syntaxError() {
        int error = -1;
        for (int length = 1; length <= text.length() && error < 0; length++) {
            Matcher matcher = ORDERS.matcher(text.substring(0, length));
            if (!matcher.matches() && !matcher.hitEnd()) {
                error = length - 1;
            }
        }
        if (error < 0 && !ORDERS.matcher(text).matches()) {
            error = text.length();
        }
        int sound = error < 0 ? text.length() : error;
        Matcher numbers = NUMBER.matcher(text);
        while (numbers.find()) {
            int number = Integer.parseInt(numbers.group().substring(1));
            boolean isDemand = numbers.group().charAt(0) == 'd';
            boolean isRight = isDemand ? number <= 3000 : number >= 1 && number <= 600;
            if (!isRight && numbers.end() <= sound) {
                return numbers.start() + 1;
            }
        }
        return error;
    }

    int carryOut() {
        int error = syntaxError();
        if (error >= 0) {
            return -10 - error;
        }
        save();
        int done = 0;
        Matcher orders = ORDER.matcher(text);
        while (orders.find()) {
            int number = orders.group(2).isEmpty() ? 0 : Integer.parseInt(orders.group(2));
            try {
                carryOut(orders.group(1).charAt(0), number);
            } catch (IllegalStateException | IndexOutOfBoundsException notPossible) {
                return done;
            }
            done++;
        }
        return done;
    }

    private void carryOut(char kind, int number) {
        if (kind == 'd') {
            world.settings[6] = number;
        } else if (kind == 'm') {
            demandState(world.time + number <= 100000);
            world.minutes(number);
        } else if (kind == 't') {
            tripWithoutSaving(number);
        } else if (kind == 'c') {
            clearWithoutSaving(number);
        } else {
            world.rotate();
        }
    }

    int undo() {
        demandState(!saved.isEmpty());
        world = saved.removeLast();
        return saved.size();
    }

    long digest() {
        List<Long> values = new ArrayList<>();
        values.add((long) text.length());
        for (int what = 0; what < 12; what++) {
            values.add((long) value(what));
        }
        for (int what = 0; what < 8; what++) {
            values.add((long) setting(what));
        }
        for (int what = 0; what < 6; what++) {
            values.add(booked(what));
        }
        for (int number = 0; number < world.units.size(); number++) {
            for (int what = 0; what < 10; what++) {
                values.add((long) compressor(number, what));
            }
            values.add((long) next(number));
        }
        for (int result : world.results) {
            values.add((long) result);
        }
        values.add((long) saved.size());
        long hash = 3631;
        for (long value : values) {
            hash = 31 * hash + value;
        }
        return hash;
    }
}
