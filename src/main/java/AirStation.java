/**
 * A station of air compressors that is stepped minute by minute: a receiver whose air changes by booked
 * flows alone, pressure bands nested stage by stage, rotation, trips, leak tests, what-if questions, and
 * programs that are read from a text.
 */
public final class AirStation {
    public static final int NONE = -1;

    private static final int MOST_COMPRESSORS = 5;
    private static final int LEAST_CAPACITY = 10;
    private static final int GREATEST_CAPACITY = 500;
    private static final int LEAST_VOLUME = 100;
    private static final int GREATEST_VOLUME = 5000;
    private static final int GREATEST_PRESSURE = 16000;
    private static final int LATEST_TIME = 100000;
    private static final int MOST_MINUTES = 600;
    private static final int MOST_TEST_MINUTES = 60;
    private static final int MOST_ORDER_MINUTES = 30;
    private static final int MOST_RESULTS = 6;
    private static final int MOST_SAVED = 4;
    private static final int MOST_BYTES = 100;
    private static final int GREATEST_BYTE = 127;

    private static final int SETTINGS = 8;
    private static final int TARGET = 0;
    private static final int STEP = 1;
    private static final int RELIEF = 2;
    private static final int UNLOADED_TIME = 3;
    private static final int REST = 4;
    private static final int LEAK = 5;
    private static final int DEMAND = 6;
    private static final int ROTATION_TIME = 7;
    private static final int[] FIRST_SETTINGS = {6500, 200, 10000, 5, 3, 2, 100, 480};
    private static final int[] LEAST_SETTINGS = {1000, 10, 2000, 1, 0, 0, 0, 10};
    private static final int[] GREATEST_SETTINGS = {12000, 500, 16000, 60, 30, 50, 3000, 5000};

    private static final int AMOUNTS = 6;
    private static final int DELIVERED = 0;
    private static final int LEAKED = 1;
    private static final int SERVED = 2;
    private static final int UNMET = 3;
    private static final int BLOWN_OFF = 4;
    private static final int ENERGY = 5;

    private static final int STATION_NUMBERS = 12;
    private static final int COMPRESSOR_NUMBERS = 10;

    private static final int OFF = 0;
    private static final int LOADED = 1;
    private static final int UNLOADED = 2;
    private static final int TRIPPED = 3;

    private static final int IS_TRIPPED = 0;
    private static final int RESTS_ON = 1;
    private static final int LOADS = 2;
    private static final int STAYS_LOADED = 3;
    private static final int UNLOADS = 4;
    private static final int STAYS_UNLOADED = 5;
    private static final int STOPS = 6;
    private static final int STAYS_OFF = 7;

    private static final int LOADED_ENERGY = 10;
    private static final int UNLOADED_ENERGY = 3;
    private static final int SYNTAX_ERROR = -10;
    private static final long DIGEST_START = 3631;

    private final State state = new State();
    private final State trial = new State();
    private final History history = new History();
    private final Program program = new Program();

    public AirStation() {
    }

    // ---- station

    public int setVolume(int volume) throws IllegalArgumentException, IllegalStateException {
        if (!isWithin(volume, LEAST_VOLUME, GREATEST_VOLUME)) {
            throw new IllegalArgumentException("the volume is out of range");
        }
        if (pressureOf(state.air, volume) > state.settings[RELIEF]) {
            throw new IllegalStateException("the pressure would be above the relief pressure");
        }
        history.save(state);
        state.volume = volume;
        return state.pressure();
    }

    public int set(int what, int value) throws IllegalArgumentException {
        if (!isWithin(what, 0, SETTINGS - 1)) {
            throw new IllegalArgumentException("there is no such setting");
        }
        if (!isWithin(value, LEAST_SETTINGS[what], GREATEST_SETTINGS[what])) {
            throw new IllegalArgumentException("the value is out of range");
        }
        history.save(state);
        int previous = state.settings[what];
        state.settings[what] = value;
        return previous;
    }

    public int addCompressor(int capacity) throws IllegalArgumentException, IllegalStateException {
        if (!isWithin(capacity, LEAST_CAPACITY, GREATEST_CAPACITY)) {
            throw new IllegalArgumentException("the capacity is out of range");
        }
        if (state.count >= MOST_COMPRESSORS) {
            throw new IllegalStateException("there are as many compressors as there can be");
        }
        history.save(state);
        return state.install(capacity);
    }

    public int trip(int compressor) throws IndexOutOfBoundsException, IllegalStateException {
        Compressor one = state.numbered(compressor);
        if (one == null) {
            throw new IndexOutOfBoundsException("there is no such compressor");
        }
        if (one.mode == TRIPPED) {
            throw new IllegalStateException("the compressor is tripped");
        }
        history.save(state);
        int previous = one.mode;
        one.fail();
        return previous;
    }

    public int clear(int compressor) throws IndexOutOfBoundsException, IllegalStateException {
        Compressor one = state.numbered(compressor);
        if (one == null) {
            throw new IndexOutOfBoundsException("there is no such compressor");
        }
        if (one.mode != TRIPPED) {
            throw new IllegalStateException("the compressor is not tripped");
        }
        history.save(state);
        one.stop(state.settings[REST]);
        return one.stage;
    }

    public int rotate() {
        history.save(state);
        return state.reorder();
    }

    public int pass(int minutes) throws IllegalArgumentException, IllegalStateException {
        if (!isWithin(minutes, 1, MOST_MINUTES)) {
            throw new IllegalArgumentException("the minutes are out of range");
        }
        if (!state.hasTimeFor(minutes)) {
            throw new IllegalStateException("the time would be too great");
        }
        history.save(state);
        state.runMinutes(minutes);
        return state.pressure();
    }

    public int leakTest(int minutes) throws IllegalArgumentException, IllegalStateException {
        if (!isWithin(minutes, 1, MOST_TEST_MINUTES)) {
            throw new IllegalArgumentException("the minutes are out of range");
        }
        if (!state.hasTimeFor(minutes)) {
            throw new IllegalStateException("the time would be too great");
        }
        history.save(state);
        return state.runLeakTest(minutes);
    }

    // ---- values

    public int compressor(int compressor, int what) throws IndexOutOfBoundsException, IllegalArgumentException {
        Compressor one = state.numbered(compressor);
        if (one == null) {
            throw new IndexOutOfBoundsException("there is no such compressor");
        }
        if (!isWithin(what, 0, COMPRESSOR_NUMBERS - 1)) {
            throw new IllegalArgumentException("there is no such number of a compressor");
        }
        return state.numberAbout(one, what);
    }

    public int atStage(int stage) throws IndexOutOfBoundsException {
        if (!isWithin(stage, 0, state.count - 1)) {
            throw new IndexOutOfBoundsException("there are not so many stages");
        }
        return state.numberAtStage(stage);
    }

    public int value(int what) throws IllegalArgumentException {
        if (!isWithin(what, 0, STATION_NUMBERS - 1)) {
            throw new IllegalArgumentException("there is no such number");
        }
        return state.numberOf(what);
    }

    public int setting(int what) throws IllegalArgumentException {
        if (!isWithin(what, 0, SETTINGS - 1)) {
            throw new IllegalArgumentException("there is no such setting");
        }
        return state.settings[what];
    }

    public long booked(int what) throws IllegalArgumentException {
        if (!isWithin(what, 0, AMOUNTS - 1)) {
            throw new IllegalArgumentException("there is no such amount");
        }
        return state.amounts[what];
    }

    public int result(int index) throws IndexOutOfBoundsException {
        if (!isWithin(index, 0, state.kept - 1) || index >= MOST_RESULTS) {
            throw new IndexOutOfBoundsException("not so many results are kept");
        }
        return state.results[index];
    }

    public int next(int compressor) throws IndexOutOfBoundsException {
        Compressor one = state.numbered(compressor);
        if (one == null) {
            throw new IndexOutOfBoundsException("there is no such compressor");
        }
        return state.doingOf(one, state.pressure());
    }

    // ---- what if

    public int pressureIn(int minutes) throws IllegalArgumentException {
        if (!isWithin(minutes, 0, MOST_MINUTES)) {
            throw new IllegalArgumentException("the minutes are out of range");
        }
        trial.takeOver(state);
        trial.runMinutes(minutes);
        return trial.pressure();
    }

    public int minutesToLoad() {
        trial.takeOver(state);
        for (int minute = 1; minute <= MOST_MINUTES; minute++) {
            if (trial.runMinute()) {
                return minute;
            }
        }
        return NONE;
    }

    public int canServe(int pressure) throws IllegalArgumentException {
        if (!isWithin(pressure, 0, GREATEST_PRESSURE)) {
            throw new IllegalArgumentException("the pressure is out of range");
        }
        return Math.max(0, state.usableCapacity() - state.leakAt(pressure));
    }

    public int energyWith(int step, int minutes) throws IllegalArgumentException {
        if (!isWithin(step, LEAST_SETTINGS[STEP], GREATEST_SETTINGS[STEP])) {
            throw new IllegalArgumentException("the step is out of range");
        }
        if (!isWithin(minutes, 1, MOST_MINUTES)) {
            throw new IllegalArgumentException("the minutes are out of range");
        }
        trial.takeOver(state);
        trial.settings[STEP] = step;
        trial.runMinutes(minutes);
        return (int) (trial.amounts[ENERGY] - state.amounts[ENERGY]);
    }

    public int bestOrder(int minutes, int stage) throws IllegalArgumentException, IndexOutOfBoundsException {
        if (!isWithin(minutes, 1, MOST_ORDER_MINUTES)) {
            throw new IllegalArgumentException("the minutes are out of range");
        }
        if (!isWithin(stage, 0, state.count - 1)) {
            throw new IndexOutOfBoundsException("there are not so many stages");
        }
        trial.takeOver(state);
        trial.orderByRank(rankOfBestOrder(minutes));
        return trial.numberAtStage(stage);
    }

    public double loadedShare() {
        long energy = state.amounts[ENERGY];
        if (energy == 0) {
            return 0.0;
        }
        return (double) state.loadedEnergy() / (double) energy;
    }

    // ---- text

    public int append(int value) throws IllegalArgumentException, IllegalStateException {
        if (!isWithin(value, 0, GREATEST_BYTE)) {
            throw new IllegalArgumentException("the byte is out of range");
        }
        if (program.length >= MOST_BYTES) {
            throw new IllegalStateException("the text is full");
        }
        return program.putByte(value);
    }

    public int clearText() {
        int previous = program.length;
        program.length = 0;
        return previous;
    }

    public int carryOut() {
        int error = program.readOrdersOrError();
        if (error != NONE) {
            return SYNTAX_ERROR - error;
        }
        history.save(state);
        for (int order = 0; order < program.orders; order++) {
            if (!state.obeys(program.kindOf(order), program.numberIn(order))) {
                return order;
            }
        }
        return program.orders;
    }

    // ---- state

    public int undo() throws IllegalStateException {
        if (history.kept == 0) {
            throw new IllegalStateException("there is no saved state");
        }
        history.restore(state);
        return history.kept;
    }

    public long digest() {
        long hash = 31 * DIGEST_START + program.length;
        for (int what = 0; what < STATION_NUMBERS; what++) {
            hash = 31 * hash + state.numberOf(what);
        }
        for (int what = 0; what < SETTINGS; what++) {
            hash = 31 * hash + state.settings[what];
        }
        for (int what = 0; what < AMOUNTS; what++) {
            hash = 31 * hash + state.amounts[what];
        }
        for (int number = 0; number < MOST_COMPRESSORS; number++) {
            hash = digestWith(hash, state.numbered(number));
        }
        for (int index = 0; index < state.kept && index < MOST_RESULTS; index++) {
            hash = 31 * hash + state.results[index];
        }
        return 31 * hash + history.kept;
    }

    private long digestWith(long before, Compressor one) {
        if (one == null) {
            return before;
        }
        long hash = before;
        for (int what = 0; what < COMPRESSOR_NUMBERS; what++) {
            hash = 31 * hash + state.numberAbout(one, what);
        }
        return 31 * hash + state.doingOf(one, state.pressure());
    }

    // The ranks go up as the orders do, so that only a better order may take the place of an earlier one.
    private int rankOfBestOrder(int minutes) {
        int best = 0;
        long leastUnmet = 0;
        long leastEnergy = 0;
        int ranks = ordersOf(state.count);
        for (int rank = 0; rank < ranks; rank++) {
            trial.takeOver(state);
            trial.orderByRank(rank);
            trial.runMinutes(minutes);
            long unmet = trial.amounts[UNMET];
            long energy = trial.amounts[ENERGY];
            if (rank == 0 || unmet < leastUnmet || unmet == leastUnmet && energy < leastEnergy) {
                best = rank;
                leastUnmet = unmet;
                leastEnergy = energy;
            }
        }
        return best;
    }

    private static boolean isWithin(int number, int least, int greatest) {
        return number >= least && number <= greatest;
    }

    private static int pressureOf(int air, int volume) {
        return volume <= 0 ? 0 : air * 1000 / volume;
    }

    private static int ordersOf(int things) {
        int orders = 1;
        for (int thing = 2; thing <= things && thing <= MOST_COMPRESSORS; thing++) {
            orders *= thing;
        }
        return orders;
    }

    private static final class Compressor {
        int capacity;
        int mode;
        int stage;
        int loadedMinutes;
        int unloadedMinutes;
        int timer;
        int rest;
        int starts;

        void takeOver(Compressor other) {
            capacity = other.capacity;
            mode = other.mode;
            stage = other.stage;
            loadedMinutes = other.loadedMinutes;
            unloadedMinutes = other.unloadedMinutes;
            timer = other.timer;
            rest = other.rest;
            starts = other.starts;
        }

        void begin(int itsCapacity, int itsStage) {
            capacity = itsCapacity;
            stage = itsStage;
            mode = OFF;
            loadedMinutes = 0;
            unloadedMinutes = 0;
            timer = 0;
            rest = 0;
            starts = 0;
        }

        void load() {
            if (mode == OFF) {
                starts++;
            }
            mode = LOADED;
            timer = 0;
        }

        void unload() {
            mode = UNLOADED;
            timer = 0;
        }

        void stop(int restToGo) {
            mode = OFF;
            timer = 0;
            rest = restToGo;
        }

        void fail() {
            mode = TRIPPED;
            timer = 0;
            rest = 0;
        }

        void carryOn(int doing, int restAfterStop) {
            switch (doing) {
                case RESTS_ON:
                    rest--;
                    break;
                case LOADS:
                    load();
                    break;
                case UNLOADS:
                    unload();
                    break;
                case STAYS_UNLOADED:
                    timer++;
                    break;
                case STOPS:
                    stop(restAfterStop);
                    break;
                default:
                    break;
            }
        }
    }

    // The text stands outside, for a saved state does not contain it.
    private static final class State {
        int volume = 1000;
        int air = 6000;
        int time;
        int sinceRotation;
        int rotations;
        int count;
        int kept;
        final int[] settings = new int[SETTINGS];
        final long[] amounts = new long[AMOUNTS];
        final int[] results = new int[MOST_RESULTS];
        private final Compressor[] compressors = new Compressor[MOST_COMPRESSORS];

        State() {
            System.arraycopy(FIRST_SETTINGS, 0, settings, 0, SETTINGS);
            for (int number = 0; number < MOST_COMPRESSORS; number++) {
                compressors[number] = new Compressor();
            }
        }

        void takeOver(State other) {
            volume = other.volume;
            air = other.air;
            time = other.time;
            sinceRotation = other.sinceRotation;
            rotations = other.rotations;
            count = other.count;
            kept = other.kept;
            System.arraycopy(other.settings, 0, settings, 0, SETTINGS);
            System.arraycopy(other.amounts, 0, amounts, 0, AMOUNTS);
            System.arraycopy(other.results, 0, results, 0, MOST_RESULTS);
            for (int number = 0; number < MOST_COMPRESSORS; number++) {
                Compressor mine = numbered(number);
                Compressor theirs = other.numbered(number);
                if (mine != null && theirs != null) {
                    mine.takeOver(theirs);
                }
            }
        }

        // Null stands for none, so that one test serves for the number and for the reference.
        Compressor numbered(int number) {
            if (number < 0 || number >= count || number >= compressors.length) {
                return null;
            }
            return compressors[number];
        }

        int install(int capacity) {
            int number = count;
            count++;
            Compressor one = numbered(number);
            if (one != null) {
                one.begin(capacity, number);
            }
            return number;
        }

        int pressure() {
            return pressureOf(air, volume);
        }

        int leakAt(int pressure) {
            return pressure * settings[LEAK] / 1000;
        }

        int limitForLoading(Compressor one) {
            return settings[TARGET] - (one.stage + 1) * settings[STEP];
        }

        int limitForUnloading(Compressor one) {
            return settings[TARGET] + (count - one.stage) * settings[STEP];
        }

        boolean hasTimeFor(int minutes) {
            return time + minutes <= LATEST_TIME;
        }

        // ---- numbers

        int numberOf(int what) {
            switch (what) {
                case 0: return volume;
                case 1: return air;
                case 2: return pressure();
                case 3: return count;
                case 4: return countOf(LOADED);
                case 5: return countOf(UNLOADED);
                case 6: return countOf(TRIPPED);
                case 7: return time;
                case 8: return sinceRotation;
                case 9: return rotations;
                case 10: return capacityOf(LOADED);
                default: return kept;
            }
        }

        int numberAbout(Compressor one, int what) {
            switch (what) {
                case 0: return one.capacity;
                case 1: return one.mode;
                case 2: return one.stage;
                case 3: return one.loadedMinutes;
                case 4: return one.unloadedMinutes;
                case 5: return one.timer;
                case 6: return one.rest;
                case 7: return one.starts;
                case 8: return limitForLoading(one);
                default: return limitForUnloading(one);
            }
        }

        private int countOf(int mode) {
            int found = 0;
            for (int number = 0; number < MOST_COMPRESSORS; number++) {
                Compressor one = numbered(number);
                if (one != null && one.mode == mode) {
                    found++;
                }
            }
            return found;
        }

        private int capacityOf(int mode) {
            int sum = 0;
            for (int number = 0; number < MOST_COMPRESSORS; number++) {
                Compressor one = numbered(number);
                if (one != null && one.mode == mode) {
                    sum += one.capacity;
                }
            }
            return sum;
        }

        int usableCapacity() {
            return capacityOf(OFF) + capacityOf(LOADED) + capacityOf(UNLOADED);
        }

        long loadedEnergy() {
            long sum = 0;
            for (int number = 0; number < MOST_COMPRESSORS; number++) {
                Compressor one = numbered(number);
                if (one != null) {
                    sum += (long) one.capacity * one.loadedMinutes;
                }
            }
            return LOADED_ENERGY * sum;
        }

        // ---- the order

        int numberAtStage(int stage) {
            for (int number = 0; number < MOST_COMPRESSORS; number++) {
                Compressor one = numbered(number);
                if (one != null && one.stage == stage) {
                    return number;
                }
            }
            return NONE;
        }

        // Each stage comes of the loaded minutes alone, so that the old stages can be written over one by one.
        int reorder() {
            int moved = 0;
            for (int number = 0; number < MOST_COMPRESSORS; number++) {
                Compressor one = numbered(number);
                if (one != null) {
                    int stage = stageByMinutes(number, one.loadedMinutes);
                    if (stage != one.stage) {
                        moved++;
                    }
                    one.stage = stage;
                }
            }
            rotations++;
            sinceRotation = 0;
            return moved;
        }

        private int stageByMinutes(int number, int loadedMinutes) {
            int ahead = 0;
            for (int rival = 0; rival < MOST_COMPRESSORS; rival++) {
                Compressor other = numbered(rival);
                if (other != null && (other.loadedMinutes < loadedMinutes
                        || other.loadedMinutes == loadedMinutes && rival < number)) {
                    ahead++;
                }
            }
            return ahead;
        }

        // The rank is taken apart stage by stage: so many orders of the later stages are alike in this one.
        void orderByRank(int rank) {
            for (int number = 0; number < MOST_COMPRESSORS; number++) {
                Compressor one = numbered(number);
                if (one != null) {
                    one.stage = NONE;
                }
            }
            int left = rank;
            for (int stage = 0; stage < count; stage++) {
                int alike = ordersOf(count - 1 - stage);
                if (alike > 0) {
                    placeAfter(left / alike, stage);
                    left = left % alike;
                }
            }
        }

        private void placeAfter(int skipped, int stage) {
            int toSkip = skipped;
            for (int number = 0; number < MOST_COMPRESSORS; number++) {
                Compressor one = numbered(number);
                if (one != null && one.stage == NONE) {
                    if (toSkip == 0) {
                        one.stage = stage;
                        return;
                    }
                    toSkip--;
                }
            }
        }

        // ---- minutes

        void runMinutes(int minutes) {
            for (int minute = 0; minute < minutes; minute++) {
                runMinute();
            }
        }

        // It answers whether a compressor became loaded, because minutesToLoad() looks for that minute.
        boolean runMinute() {
            if (sinceRotation >= settings[ROTATION_TIME]) {
                reorder();
            }
            int pressure = pressure();
            boolean loaded = lookAtAll(pressure);
            runFlows(pressure, settings[DEMAND]);
            return loaded;
        }

        int runLeakTest(int minutes) {
            unloadAll();
            int leaked = 0;
            for (int minute = 0; minute < minutes; minute++) {
                if (sinceRotation >= settings[ROTATION_TIME]) {
                    reorder();
                }
                leaked += runFlows(pressure(), 0);
            }
            keepResult(leaked);
            return leaked;
        }

        private void unloadAll() {
            for (int number = 0; number < MOST_COMPRESSORS; number++) {
                Compressor one = numbered(number);
                if (one != null && one.mode == LOADED) {
                    one.unload();
                }
            }
        }

        private void keepResult(int leaked) {
            for (int index = MOST_RESULTS - 1; index > 0; index--) {
                results[index] = results[index - 1];
            }
            results[0] = leaked;
            kept = Math.min(kept + 1, MOST_RESULTS);
        }

        // No compressor's doing hangs on another's, so that they need not be looked at in their order.
        private boolean lookAtAll(int pressure) {
            boolean loaded = false;
            for (int number = 0; number < MOST_COMPRESSORS; number++) {
                Compressor one = numbered(number);
                if (one != null) {
                    int doing = doingOf(one, pressure);
                    one.carryOn(doing, settings[REST]);
                    loaded = loaded || doing == LOADS;
                }
            }
            return loaded;
        }

        // It changes nothing, so that next() can ask for what the minutes carry out.
        int doingOf(Compressor one, int pressure) {
            switch (one.mode) {
                case OFF:
                    if (one.rest > 0) {
                        return RESTS_ON;
                    }
                    return pressure < limitForLoading(one) ? LOADS : STAYS_OFF;
                case LOADED:
                    return pressure > limitForUnloading(one) ? UNLOADS : STAYS_LOADED;
                case UNLOADED:
                    if (pressure < limitForLoading(one)) {
                        return LOADS;
                    }
                    return one.timer + 1 >= settings[UNLOADED_TIME] ? STOPS : STAYS_UNLOADED;
                default:
                    return IS_TRIPPED;
            }
        }

        // It answers what the leak took, because a leak test adds that up.
        private int runFlows(int pressureBefore, int demand) {
            runCompressors();
            int leaked = Math.min(leakAt(pressureBefore), air);
            air -= leaked;
            int served = Math.min(demand, air);
            air -= served;
            amounts[LEAKED] += leaked;
            amounts[SERVED] += served;
            amounts[UNMET] += demand - served;
            blowOff();
            time++;
            sinceRotation++;
            return leaked;
        }

        private void runCompressors() {
            for (int number = 0; number < MOST_COMPRESSORS; number++) {
                Compressor one = numbered(number);
                if (one != null && one.mode == LOADED) {
                    air += one.capacity;
                    amounts[DELIVERED] += one.capacity;
                    amounts[ENERGY] += LOADED_ENERGY * one.capacity;
                    one.loadedMinutes++;
                } else if (one != null && one.mode == UNLOADED) {
                    amounts[ENERGY] += UNLOADED_ENERGY * one.capacity;
                    one.unloadedMinutes++;
                }
            }
        }

        private void blowOff() {
            if (pressureOf(air, volume) > settings[RELIEF]) {
                int left = settings[RELIEF] * volume / 1000;
                amounts[BLOWN_OFF] += air - left;
                air = left;
            }
        }

        // ---- orders of a text

        boolean obeys(int kind, int number) {
            switch (kind) {
                case 'd':
                    settings[DEMAND] = number;
                    return true;
                case 'm':
                    if (!hasTimeFor(number)) {
                        return false;
                    }
                    runMinutes(number);
                    return true;
                case 't':
                    return trips(numbered(number));
                case 'c':
                    return clears(numbered(number));
                default:
                    reorder();
                    return true;
            }
        }

        private boolean trips(Compressor one) {
            if (one == null || one.mode == TRIPPED) {
                return false;
            }
            one.fail();
            return true;
        }

        private boolean clears(Compressor one) {
            if (one == null || one.mode != TRIPPED) {
                return false;
            }
            one.stop(settings[REST]);
            return true;
        }
    }

    // The rows are made once and used round and round, so that no call makes a state.
    private static final class History {
        int kept;
        private int newest;
        private final State[] saved = new State[MOST_SAVED];

        History() {
            for (int place = 0; place < MOST_SAVED; place++) {
                saved[place] = new State();
            }
        }

        void save(State state) {
            newest = newest + 1 < MOST_SAVED ? newest + 1 : 0;
            State place = savedAt(newest);
            if (place != null) {
                place.takeOver(state);
            }
            kept = Math.min(kept + 1, MOST_SAVED);
        }

        void restore(State state) {
            State place = savedAt(newest);
            if (place != null) {
                state.takeOver(place);
            }
            newest = newest > 0 ? newest - 1 : MOST_SAVED - 1;
            kept = Math.max(kept - 1, 0);
        }

        private State savedAt(int place) {
            return place >= 0 && place < saved.length ? saved[place] : null;
        }
    }

    private static final class Program {
        int length;
        int orders;
        private int position;
        private int error;
        private final int[] bytes = new int[MOST_BYTES];
        private final int[] kinds = new int[MOST_BYTES];
        private final int[] numbers = new int[MOST_BYTES];

        int putByte(int value) {
            if (length < bytes.length) {
                bytes[length] = value;
                length++;
            }
            return length;
        }

        int kindOf(int order) {
            return order >= 0 && order < kinds.length ? kinds[order] : NONE;
        }

        int numberIn(int order) {
            return order >= 0 && order < numbers.length ? numbers[order] : NONE;
        }

        // All is read before anything is carried out, because with a syntax error nothing may change.
        int readOrdersOrError() {
            orders = 0;
            position = 0;
            error = NONE;
            for (int order = 0; order < MOST_BYTES && position < length && error == NONE; order++) {
                kinds[order] = byteAt(position);
                numbers[order] = readOrder(kinds[order]);
                orders++;
            }
            return error;
        }

        private int readOrder(int kind) {
            int start = position;
            int number = 0;
            position++;
            switch (kind) {
                case 'd':
                    number = readNumber(4, 0, GREATEST_SETTINGS[DEMAND]);
                    break;
                case 'm':
                    number = readNumber(3, 1, MOST_MINUTES);
                    break;
                case 't':
                case 'c':
                    number = readCompressor();
                    break;
                case 'r':
                    break;
                default:
                    error = start;
                    break;
            }
            readSemicolon();
            return number;
        }

        // A digit too many is found ahead of the range, which waits for a byte that is no digit.
        private int readNumber(int mostDigits, int least, int greatest) {
            int start = position;
            int number = 0;
            while (position < start + mostDigits && isDigit(byteAt(position))) {
                number = 10 * number + byteAt(position) - '0';
                position++;
            }
            if (position == start || isDigit(byteAt(position))) {
                error = position;
            } else if (!isWithin(number, least, greatest)) {
                error = start;
            }
            return number;
        }

        private int readCompressor() {
            int number = byteAt(position) - '0';
            if (!isWithin(number, 0, MOST_COMPRESSORS - 1)) {
                error = position;
            }
            position++;
            return number;
        }

        private void readSemicolon() {
            if (error == NONE && byteAt(position) != ';') {
                error = position;
            }
            position++;
        }

        // NONE stands behind the end: it can stand nowhere in an order, so that the end needs no test of its own.
        private int byteAt(int place) {
            return place >= 0 && place < length && place < bytes.length ? bytes[place] : NONE;
        }

        private static boolean isDigit(int value) {
            return value >= '0' && value <= '9';
        }
    }
}
