/** A level gauge that looks down into a tank with a stirrer; README.md says how to use it. */
public final class EchoGauge {
    /** Returned where there is no such value. */
    public static final int NONE = -1;

    private static final int MOST_DISTANCE = 10000;
    private static final int BIN_WIDTH = 20;
    private static final int BINS = 501;
    private static final int MOST_THINGS = 6;
    private static final int MOST_BLADES = 6;
    /** Things, blades, foam, surface and its second echo. */
    private static final int MOST_ECHOES = MOST_THINGS + MOST_BLADES + 3;
    private static final int MOST_HISTORY = 9;
    private static final int MOST_SAVED = 4;
    private static final int MOST_BYTES = 150;
    private static final int MOST_NUMBERS = 5;
    private static final int MOST_DIGITS = 5;

    private static final int LOSS = 0;
    private static final int JITTER = 1;
    private static final int NEED = 2;
    private static final int GAIN = 3;
    private static final int GUARD = 4;
    private static final int MODE = 5;
    private static final int PLACES = 6;
    private static final int SMOOTHING = 7;
    private static final int PATIENCE = 8;
    private static final int LOW = 9;
    private static final int HIGH = 10;
    private static final int MARGIN = 11;

    private static final int TANK_VALUES = 12;
    private static final int SETTINGS = 12;
    private static final int GAUGE_VALUES = 13;
    private static final int ECHO_VALUES = 6;

    private static final int KIND_THING = 0;
    private static final int KIND_BLADE = 1;
    private static final int KIND_FOAM = 2;
    private static final int KIND_SURFACE = 3;
    private static final int KIND_SECOND = 4;
    private static final int BLADE_STRENGTH = 60;

    private static final int MODE_STRONGEST = 1;
    private static final int MODE_NEAREST = 2;
    private static final int MODES = 3;

    private static final int NO_ALARM = 0;
    private static final int LOW_ALARM = 1;
    private static final int HIGH_ALARM = 2;

    private final State state = new State();
    /** What-if questions are played here, so that they change nothing. */
    private final State trial = new State();
    /** A ring, filled once: its states are written over instead of made anew. */
    private final State[] saved = new State[MOST_SAVED];
    private int newestSaved = 0;
    private int savedCount = 0;
    private final CommandText commands = new CommandText();

    public EchoGauge() {
        for (int i = 0; i < saved.length; i++) {
            saved[i] = new State();
        }
    }

    // ---- tank

    public int begin(int depth) throws IllegalArgumentException {
        if (!Tank.allowsDepth(depth)) {
            throw new IllegalArgumentException("depth is out of range");
        }
        save();
        int shots = state.history.shots;
        state.startAgain(depth);
        return shots;
    }

    public int setLevel(int level) throws IllegalArgumentException {
        if (!state.tank.allowsLevel(level)) {
            throw new IllegalArgumentException("level is out of range");
        }
        save();
        int previous = state.tank.level;
        state.tank.level = level;
        return previous;
    }

    public int setFlow(int flow) throws IllegalArgumentException {
        if (!Tank.allowsFlow(flow)) {
            throw new IllegalArgumentException("flow is out of range");
        }
        save();
        int previous = state.tank.flow;
        state.tank.flow = flow;
        return previous;
    }

    public int setFoam(int thickness) throws IllegalArgumentException {
        if (!Tank.allowsFoam(thickness)) {
            throw new IllegalArgumentException("thickness is out of range");
        }
        save();
        int previous = state.tank.foam;
        state.tank.foam = thickness;
        return previous;
    }

    public int addThing(int distance, int strength) throws IllegalArgumentException, IllegalStateException {
        if (!Tank.allowsThing(distance, strength)) {
            throw new IllegalArgumentException("distance or strength is out of range");
        }
        if (!state.tank.hasPlaceForThing()) {
            throw new IllegalStateException("there are 6 things");
        }
        save();
        state.tank.putThing(distance, strength);
        return state.tank.things - 1;
    }

    public int removeThing(int thing) throws IndexOutOfBoundsException {
        if (!state.tank.hasThing(thing)) {
            throw new IndexOutOfBoundsException("there is no such thing");
        }
        save();
        state.tank.dropThing(thing);
        return state.tank.things;
    }

    public int setStirrer(int blades, int upper, int lower, int speed, int beam) throws IllegalArgumentException {
        if (!Tank.allowsStirrer(blades, upper, lower, speed, beam)) {
            throw new IllegalArgumentException("a value of the stirrer is out of range");
        }
        save();
        int previous = state.tank.blades;
        state.tank.putStirrer(blades, upper, lower, speed, beam);
        return previous;
    }

    // ---- gauge

    public int set(int what, int value) throws IllegalArgumentException {
        if (!state.settings.allows(what, value)) {
            throw new IllegalArgumentException("what or value is out of range");
        }
        save();
        int previous = state.settings.value(what);
        state.change(what, value);
        return previous;
    }

    public int setS(int value) throws IllegalArgumentException {
        if (value < 0) {
            throw new IllegalArgumentException("value is negative");
        }
        save();
        int previous = state.tank.s;
        state.tank.s = value;
        return previous;
    }

    public int mask(int distance, boolean masked) throws IllegalArgumentException {
        if (!allowsDistance(distance)) {
            throw new IllegalArgumentException("distance is out of range");
        }
        save();
        boolean was = state.masks.covers(distance);
        state.masks.put(distance, masked);
        return was ? 1 : 0;
    }

    public int learn(int shots) throws IllegalArgumentException {
        if (!allowsLearning(shots)) {
            throw new IllegalArgumentException("shots is out of range");
        }
        save();
        state.learnFalseEchoes(shots);
        return state.masks.count;
    }

    public int forget() {
        save();
        int count = state.masks.count;
        state.masks.reset();
        return count;
    }

    public int shoot(int shots) throws IllegalArgumentException {
        if (!allowsShooting(shots)) {
            throw new IllegalArgumentException("shots is out of range");
        }
        save();
        int before = state.history.pickedShots;
        state.takeShots(shots);
        return state.history.pickedShots - before;
    }

    // ---- values

    public int echo(int echo, int what) throws IllegalArgumentException {
        if (echo < 0 || what < 0 || what >= ECHO_VALUES) {
            throw new IllegalArgumentException("echo is negative, or what is out of range");
        }
        return state.echoes.value(echo, what);
    }

    public int pick(int back) throws IllegalArgumentException {
        if (back < 0) {
            throw new IllegalArgumentException("back is negative");
        }
        return state.history.pickAt(back);
    }

    public boolean isMasked(int distance) throws IllegalArgumentException {
        if (!allowsDistance(distance)) {
            throw new IllegalArgumentException("distance is out of range");
        }
        return state.masks.covers(distance);
    }

    public int need(int distance) throws IllegalArgumentException {
        if (!allowsDistance(distance)) {
            throw new IllegalArgumentException("distance is out of range");
        }
        return state.settings.needAt(distance);
    }

    public int thing(int thing, int what) throws IndexOutOfBoundsException, IllegalArgumentException {
        if (!state.tank.hasThing(thing)) {
            throw new IndexOutOfBoundsException("there is no such thing");
        }
        if (what != 0 && what != 1) {
            throw new IllegalArgumentException("what is out of range");
        }
        return what == 0 ? state.tank.thingDistance(thing) : state.tank.thingStrength(thing);
    }

    public int angle(int blade) throws IndexOutOfBoundsException {
        if (blade < 0 || blade >= state.tank.blades) {
            throw new IndexOutOfBoundsException("there is no such blade");
        }
        return state.tank.bladeAngle(blade);
    }

    public int tank(int what) throws IllegalArgumentException {
        Tank tank = state.tank;
        switch (what) {
            case 0: return tank.depth;
            case 1: return tank.level;
            case 2: return tank.flow;
            case 3: return tank.foam;
            case 4: return tank.things;
            case 5: return tank.blades;
            case 6: return tank.upper;
            case 7: return tank.lower;
            case 8: return tank.phase;
            case 9: return tank.speed;
            case 10: return tank.beam;
            case 11: return tank.s;
            default: throw new IllegalArgumentException("what is out of range");
        }
    }

    public int setting(int what) throws IllegalArgumentException {
        if (!Settings.has(what)) {
            throw new IllegalArgumentException("what is out of range");
        }
        return state.settings.value(what);
    }

    public int gauge(int what) throws IllegalArgumentException {
        History history = state.history;
        switch (what) {
            case 0: return history.shots;
            case 1: return history.pickedShots;
            case 2: return history.told;
            case 3: return history.toldLevel(state.tank.depth);
            case 4: return history.misses;
            case 5: return history.alarm;
            case 6: return state.masks.count;
            case 7: return state.echoes.count;
            case 8: return history.count;
            case 9: return history.pickCount();
            case 10: return history.median(state.settings.value(PLACES));
            case 11: return history.drops;
            case 12: return history.alarms;
            default: throw new IllegalArgumentException("what is out of range");
        }
    }

    public double meanPick() {
        int picks = state.history.pickCount();
        return picks > 0 ? (double) state.history.pickSum() / (double) picks : -1.0;
    }

    // ---- what if, which changes nothing

    public int toldAfter(int most) throws IllegalArgumentException {
        if (most < 0 || most > 500) {
            throw new IllegalArgumentException("most is out of range");
        }
        trial.copyFrom(state);
        int shots = 0;
        while (shots < most && trial.history.told == NONE) {
            trial.takeShots(1);
            shots++;
        }
        return trial.history.told != NONE ? shots : NONE;
    }

    public int worstError(int shots) throws IllegalArgumentException {
        if (!allowsForecast(shots)) {
            throw new IllegalArgumentException("shots is out of range");
        }
        return worstErrorByMode(shots, state.settings.value(MODE));
    }

    public int bestMode(int shots) throws IllegalArgumentException {
        if (!allowsForecast(shots)) {
            throw new IllegalArgumentException("shots is out of range");
        }
        int best = 0;
        int least = worstErrorByMode(shots, 0);
        for (int mode = 1; mode < MODES; mode++) {
            int worst = worstErrorByMode(shots, mode);
            if (worst < least) {
                best = mode;
                least = worst;
            }
        }
        return best;
    }

    // ---- command text, undo and checksum

    public int type(int value) throws IllegalArgumentException, IllegalStateException {
        if (value < 0 || value > 127) {
            throw new IllegalArgumentException("value is out of range");
        }
        if (commands.isFull()) {
            throw new IllegalStateException("the text has 150 bytes");
        }
        commands.append(value);
        return commands.length;
    }

    public int clearCommands() {
        int length = commands.length;
        commands.length = 0;
        return length;
    }

    public int runCommands() {
        int fault = commands.fault();
        if (fault != NONE) {
            return -10 - fault;
        }
        save();
        int done = 0;
        commands.rewind();
        while (done < MOST_BYTES && commands.hasMore() && commands.readCommand() && carryOut()) {
            done++;
        }
        return done;
    }

    public int undo() throws IllegalStateException {
        if (savedCount < 1) {
            throw new IllegalStateException("the stack is empty");
        }
        copyIfThere(savedAt(newestSaved), state);
        newestSaved = newestSaved > 0 ? newestSaved - 1 : saved.length - 1;
        savedCount--;
        return savedCount;
    }

    public long digest() {
        long h = 18907L;
        h = 31L * h + savedCount;
        h = 31L * h + commands.length;
        for (int what = 0; what < TANK_VALUES; what++) {
            h = 31L * h + tank(what);
        }
        for (int what = 0; what < SETTINGS; what++) {
            h = 31L * h + setting(what);
        }
        for (int what = 0; what < GAUGE_VALUES; what++) {
            h = 31L * h + gauge(what);
        }
        h = state.tank.addToDigest(h);
        h = state.echoes.addToDigest(h);
        for (int back = 0; back < state.settings.value(PLACES); back++) {
            h = 31L * h + pick(back);
        }
        return state.masks.addToDigest(h);
    }

    // ---- helpers of the calls above

    private static boolean allowsDistance(int distance) {
        return distance >= 0 && distance <= MOST_DISTANCE;
    }

    private static boolean allowsShooting(int shots) {
        return shots >= 1 && shots <= 500;
    }

    private static boolean allowsLearning(int shots) {
        return shots >= 1 && shots <= 50;
    }

    private static boolean allowsForecast(int shots) {
        return shots >= 1 && shots <= 200;
    }

    private static void copyRow(int[] from, int[] to) {
        System.arraycopy(from, 0, to, 0, Math.min(from.length, to.length));
    }

    private static void copyIfThere(State from, State to) {
        if (from != null && to != null) {
            to.copyFrom(from);
        }
    }

    private State savedAt(int index) {
        return index >= 0 && index < saved.length ? saved[index] : null;
    }

    private void save() {
        newestSaved = newestSaved + 1 < saved.length ? newestSaved + 1 : 0;
        copyIfThere(state, savedAt(newestSaved));
        if (savedCount < saved.length) {
            savedCount++;
        }
    }

    private int worstErrorByMode(int shots, int mode) {
        trial.copyFrom(state);
        trial.change(MODE, mode);
        int worst = 0;
        for (int i = 0; i < shots; i++) {
            trial.takeShots(1);
            if (trial.history.told != NONE) {
                int error = trial.tank.level - trial.history.toldLevel(trial.tank.depth);
                worst = Math.max(worst, Math.abs(error));
            }
        }
        return worst;
    }

    /** Carries out the command read last; answers false, with nothing done, where its call would throw. */
    private boolean carryOut() {
        Word word = commands.word;
        if (word == null) {
            return false;
        }
        int first = commands.number(0);
        int second = commands.number(1);
        boolean allowed = mayCarryOut(word, first, second);
        if (allowed) {
            switch (word) {
                case TANK: state.startAgain(first); break;
                case LEVEL: state.tank.level = first; break;
                case FLOW: state.tank.flow = first; break;
                case FOAM: state.tank.foam = first; break;
                case THING: state.tank.putThing(first, second); break;
                case BLADES: state.tank.putStirrer(first, second,
                        commands.number(2), commands.number(3), commands.number(4)); break;
                case SET: state.change(first, second); break;
                case LEARN: state.learnFalseEchoes(first); break;
                case SHOOT: state.takeShots(first); break;
                default: return false;
            }
        }
        return allowed;
    }

    private boolean mayCarryOut(Word word, int first, int second) {
        if (word == null) {
            return false;
        }
        switch (word) {
            case TANK: return Tank.allowsDepth(first);
            case LEVEL: return state.tank.allowsLevel(first);
            case FLOW: return Tank.allowsFlow(first);
            case FOAM: return Tank.allowsFoam(first);
            case THING: return Tank.allowsThing(first, second) && state.tank.hasPlaceForThing();
            case BLADES: return Tank.allowsStirrer(first, second,
                    commands.number(2), commands.number(3), commands.number(4));
            case SET: return state.settings.allows(first, second);
            case LEARN: return allowsLearning(first);
            case SHOOT: return allowsShooting(first);
            default: return false;
        }
    }

    /** All that undo brings back; every part writes over its rows instead of making new ones. */
    private static final class State {
        final Tank tank = new Tank();
        final Settings settings = new Settings();
        final Masks masks = new Masks();
        final Echoes echoes = new Echoes();
        final History history = new History();
        /** The candidates of the latest shot of shoot(), kept apart from echoes, which learn() replaces. */
        final Distances latest = new Distances();
        final Distances earlier = new Distances();

        void copyFrom(State other) {
            tank.copyFrom(other.tank);
            settings.copyFrom(other.settings);
            masks.copyFrom(other.masks);
            echoes.copyFrom(other.echoes);
            history.copyFrom(other.history);
            latest.copyFrom(other.latest);
            earlier.copyFrom(other.earlier);
        }

        void startAgain(int depth) {
            int s = tank.s;
            tank.reset();
            tank.depth = depth;
            tank.s = s;
            settings.reset();
            masks.reset();
            echoes.reset();
            history.reset();
            latest.reset();
            earlier.reset();
        }

        void change(int what, int value) {
            settings.put(what, value);
            if (what == PLACES) {
                history.shorten(value);
            }
        }

        void takeShots(int shots) {
            for (int i = 0; i < shots; i++) {
                send();
                findCandidates();
                if (settings.value(GUARD) == 1) {
                    dropBlades();
                }
                int picked = echoes.bestOf(settings.value(MODE), history.told);
                echoes.mark(picked, Echoes.PICKED);
                earlier.copyFrom(latest);
                latest.takeCandidates(echoes);
                history.enter(echoes.distance(picked), settings, tank.depth);
            }
        }

        void learnFalseEchoes(int shots) {
            for (int i = 0; i < shots; i++) {
                send();
                for (int k = 0; k < echoes.count; k++) {
                    int distance = echoes.distance(k);
                    if (echoes.kind(k) <= KIND_BLADE && distance <= tank.depth) {
                        masks.put(distance, true);
                    }
                }
            }
        }

        /** Moves the tank on and lets one shot come back. */
        private void send() {
            tank.moveOn();
            echoes.reset();
            int surface = tank.depth - tank.level;
            for (int i = 0; i < tank.things; i++) {
                if (tank.thingDistance(i) < surface) {
                    echoes.append(KIND_THING, tank.thingDistance(i), tank.thingStrength(i));
                }
            }
            boolean hidden = sendBlades(surface);
            if (tank.foam > 0) {
                echoes.append(KIND_FOAM, Math.max(0, surface - tank.foam), Math.max(10, 70 - tank.foam / 10));
            }
            if (!hidden) {
                int strength = Math.max(0, 80 - tank.foam / 5);
                echoes.append(KIND_SURFACE, surface, strength);
                echoes.append(KIND_SECOND, 2 * surface, strength / 2);
            }
            echoes.meetChance(tank, settings.value(LOSS), settings.value(JITTER));
        }

        /** Answers whether a blade gave an echo: it hides the surface even if chance then loses the echo. */
        private boolean sendBlades(int surface) {
            boolean hidden = false;
            for (int blade = 0; blade < tank.blades; blade++) {
                int distance = blade % 2 == 0 ? tank.upper : tank.lower;
                if (tank.isInBeam(blade) && distance < surface) {
                    echoes.append(KIND_BLADE, distance, BLADE_STRENGTH);
                    hidden = true;
                }
            }
            return hidden;
        }

        private void findCandidates() {
            for (int i = 0; i < echoes.count; i++) {
                int distance = echoes.distance(i);
                if (distance <= tank.depth && !masks.covers(distance)
                        && echoes.strength(i) >= settings.needAt(distance)) {
                    echoes.mark(i, Echoes.CANDIDATE);
                }
            }
        }

        private void dropBlades() {
            for (int i = 0; i < echoes.count; i++) {
                int distance = echoes.distance(i);
                if (echoes.isMarked(i, Echoes.CANDIDATE)
                        && distance >= tank.upper - 40 && distance <= tank.lower + 40
                        && !(latest.hasNear(distance) && earlier.hasNear(distance))) {
                    echoes.mark(i, Echoes.DROPPED);
                    history.drops++;
                }
            }
        }
    }

    /** The tank with what is in it, and the chance that its echoes meet. */
    private static final class Tank {
        int depth;
        int level;
        int flow;
        int foam;
        int things;
        private final int[] distances = new int[MOST_THINGS];
        private final int[] strengths = new int[MOST_THINGS];
        int blades;
        int upper;
        int lower;
        int phase;
        int speed;
        int beam;
        int s;

        Tank() {
            reset();
        }

        void reset() {
            depth = 2000;
            level = 500;
            flow = 0;
            foam = 0;
            things = 0;
            blades = 0;
            upper = 300;
            lower = 600;
            phase = 0;
            speed = 47;
            beam = 20;
            s = 1;
        }

        void copyFrom(Tank other) {
            depth = other.depth;
            level = other.level;
            flow = other.flow;
            foam = other.foam;
            things = other.things;
            copyRow(other.distances, distances);
            copyRow(other.strengths, strengths);
            blades = other.blades;
            upper = other.upper;
            lower = other.lower;
            phase = other.phase;
            speed = other.speed;
            beam = other.beam;
            s = other.s;
        }

        static boolean allowsDepth(int depth) {
            return depth >= 500 && depth <= 10000;
        }

        boolean allowsLevel(int level) {
            return level >= 0 && level <= depth;
        }

        static boolean allowsFlow(int flow) {
            return flow >= -200 && flow <= 200;
        }

        static boolean allowsFoam(int thickness) {
            return thickness >= 0 && thickness <= 500;
        }

        static boolean allowsThing(int distance, int strength) {
            return allowsDistance(distance) && strength >= 1 && strength <= 100;
        }

        static boolean allowsStirrer(int blades, int upper, int lower, int speed, int beam) {
            return blades >= 0 && blades <= MOST_BLADES
                && allowsDistance(upper) && allowsDistance(lower) && upper < lower
                && speed >= 0 && speed <= 359
                && beam >= 0 && beam <= 90;
        }

        boolean hasPlaceForThing() {
            return things < MOST_THINGS;
        }

        boolean hasThing(int thing) {
            return thing >= 0 && thing < things && thing < MOST_THINGS;
        }

        void putThing(int distance, int strength) {
            if (things >= 0 && things < distances.length && things < strengths.length) {
                distances[things] = distance;
                strengths[things] = strength;
                things++;
            }
        }

        void dropThing(int thing) {
            if (!hasThing(thing)) {
                return;
            }
            for (int i = thing; i + 1 < things && i + 1 < MOST_THINGS; i++) {
                distances[i] = distances[i + 1];
                strengths[i] = strengths[i + 1];
            }
            things--;
        }

        int thingDistance(int thing) {
            return hasThing(thing) ? distances[thing] : NONE;
        }

        int thingStrength(int thing) {
            return hasThing(thing) ? strengths[thing] : NONE;
        }

        void putStirrer(int newBlades, int newUpper, int newLower, int newSpeed, int newBeam) {
            blades = newBlades;
            upper = newUpper;
            lower = newLower;
            speed = newSpeed;
            beam = newBeam;
        }

        void moveOn() {
            level = Math.min(depth, Math.max(0, level + flow));
            phase = (phase + speed) % 360;
        }

        int bladeAngle(int blade) {
            return blades > 0 ? (phase + 360 * blade / blades) % 360 : NONE;
        }

        boolean isInBeam(int blade) {
            int angle = bladeAngle(blade);
            return angle <= beam || angle >= 360 - beam;
        }

        int draw(int below) {
            s = (int) ((1103515245L * s + 12345L) % 2147483648L);
            return below > 0 ? s / 65536 % below : 0;
        }

        long addToDigest(long start) {
            long h = start;
            for (int i = 0; i < things; i++) {
                h = 31L * h + thingDistance(i);
                h = 31L * h + thingStrength(i);
            }
            for (int blade = 0; blade < blades; blade++) {
                h = 31L * h + bladeAngle(blade);
            }
            return h;
        }
    }

    private static final class Settings {
        private static final int[] FIRST = {0, 0, 20, 2, 0, 0, 5, 4, 10, 200, 1800, 20};
        private static final int[] LEAST = {0, 0, 1, 0, 0, 0, 1, 1, 1, 0, 0, 0};
        private static final int[] MOST = {100, 20, 100, 20, 1, 2, 9, 20, 99, 10000, 10000, 500};

        private final int[] values = new int[SETTINGS];

        Settings() {
            reset();
        }

        void reset() {
            copyRow(FIRST, values);
        }

        void copyFrom(Settings other) {
            copyRow(other.values, values);
        }

        static boolean has(int what) {
            return what >= 0 && what < SETTINGS;
        }

        boolean allows(int what, int value) {
            if (!has(what) || value < LEAST[what] || value > MOST[what]) {
                return false;
            }
            return !(what == LOW && value > value(HIGH)) && !(what == HIGH && value < value(LOW));
        }

        int value(int what) {
            return has(what) ? values[what] : 0;
        }

        void put(int what, int value) {
            if (has(what)) {
                values[what] = value;
            }
        }

        int needAt(int distance) {
            return Math.max(1, value(NEED) - distance * value(GAIN) / 1000);
        }
    }

    /** The masked bins, a bit for each, so that saving them is cheap. */
    private static final class Masks {
        private static final int BITS = 64;

        private final long[] rows = new long[(BINS + BITS - 1) / BITS];
        int count = 0;

        void reset() {
            for (int i = 0; i < rows.length; i++) {
                rows[i] = 0L;
            }
            count = 0;
        }

        void copyFrom(Masks other) {
            System.arraycopy(other.rows, 0, rows, 0, Math.min(other.rows.length, rows.length));
            count = other.count;
        }

        boolean covers(int distance) {
            return hasBin(distance / BIN_WIDTH);
        }

        private boolean hasBin(int bin) {
            int row = bin / BITS;
            return bin >= 0 && row < rows.length && (rows[row] & bit(bin)) != 0L;
        }

        void put(int distance, boolean masked) {
            int bin = distance / BIN_WIDTH;
            int row = bin / BITS;
            if (bin < 0 || row >= rows.length || hasBin(bin) == masked) {
                return;
            }
            rows[row] ^= bit(bin);
            count += masked ? 1 : -1;
        }

        private static long bit(int bin) {
            return 1L << (bin % BITS);
        }

        long addToDigest(long start) {
            long h = start;
            for (int bin = 0; bin < BINS; bin++) {
                h = 31L * h + (hasBin(bin) ? 1L : 0L);
            }
            return h;
        }
    }

    /** The echoes of the latest shot, in their order. */
    private static final class Echoes {
        static final int CANDIDATE = 1;
        static final int DROPPED = 2;
        static final int PICKED = 4;

        int count = 0;
        private final int[] kinds = new int[MOST_ECHOES];
        private final int[] distances = new int[MOST_ECHOES];
        private final int[] strengths = new int[MOST_ECHOES];
        private final int[] marks = new int[MOST_ECHOES];

        void reset() {
            count = 0;
        }

        void copyFrom(Echoes other) {
            count = other.count;
            copyRow(other.kinds, kinds);
            copyRow(other.distances, distances);
            copyRow(other.strengths, strengths);
            copyRow(other.marks, marks);
        }

        boolean has(int index) {
            return index >= 0 && index < count && index < MOST_ECHOES;
        }

        int kind(int index) {
            return has(index) ? kinds[index] : NONE;
        }

        int distance(int index) {
            return has(index) ? distances[index] : NONE;
        }

        int strength(int index) {
            return has(index) ? strengths[index] : NONE;
        }

        boolean isMarked(int index, int mark) {
            return has(index) && (marks[index] & mark) != 0;
        }

        void mark(int index, int mark) {
            if (has(index)) {
                marks[index] |= mark;
            }
        }

        void append(int kind, int distance, int strength) {
            if (count >= 0 && count < MOST_ECHOES) {
                put(count, kind, distance, strength);
                marks[count] = 0;
                count++;
            }
        }

        private void put(int index, int kind, int distance, int strength) {
            if (index >= 0 && index < MOST_ECHOES) {
                kinds[index] = kind;
                distances[index] = distance;
                strengths[index] = strength;
            }
        }

        /** Loses or moves the echoes as they came; those that are left are put in order in the same rows. */
        void meetChance(Tank tank, int loss, int jitter) {
            int sent = Math.min(count, MOST_ECHOES);
            count = 0;
            for (int i = 0; i < sent; i++) {
                boolean lost = tank.draw(100) < loss;
                if (!lost) {
                    int moved = jitter > 0 ? distances[i] + tank.draw(2 * jitter + 1) - jitter : distances[i];
                    insert(kinds[i], Math.max(0, moved), strengths[i]);
                }
            }
        }

        /** Equal echoes stay as they came. */
        private void insert(int kind, int distance, int strength) {
            if (count < 0 || count >= MOST_ECHOES) {
                return;
            }
            int place = count;
            while (place > 0 && comesBefore(kind, distance, strength, place - 1)) {
                put(place, kinds[place - 1], distances[place - 1], strengths[place - 1]);
                place--;
            }
            put(place, kind, distance, strength);
            count++;
        }

        private boolean comesBefore(int kind, int distance, int strength, int index) {
            if (index < 0 || index >= MOST_ECHOES) {
                return false;
            }
            if (distance != distances[index]) {
                return distance < distances[index];
            }
            if (strength != strengths[index]) {
                return strength > strengths[index];
            }
            return kind < kinds[index];
        }

        /** Answers the index of the echo that the mode picks. */
        int bestOf(int mode, int told) {
            int best = NONE;
            for (int i = 0; i < count; i++) {
                if (isMarked(i, CANDIDATE) && !isMarked(i, DROPPED)
                        && (best == NONE || isBetter(i, best, mode, told))) {
                    best = i;
                }
            }
            return best;
        }

        private boolean isBetter(int index, int best, int mode, int told) {
            if (mode == MODE_STRONGEST) {
                return strength(index) > strength(best);
            }
            if (mode == MODE_NEAREST && told != NONE) {
                return Math.abs(distance(index) - told) < Math.abs(distance(best) - told);
            }
            return false;
        }

        int value(int index, int what) {
            if (!has(index)) {
                return NONE;
            }
            switch (what) {
                case 0: return kind(index);
                case 1: return distance(index);
                case 2: return strength(index);
                case 3: return isMarked(index, CANDIDATE) ? 1 : 0;
                case 4: return isMarked(index, DROPPED) ? 1 : 0;
                case 5: return isMarked(index, PICKED) ? 1 : 0;
                default: return NONE;
            }
        }

        long addToDigest(long start) {
            long h = start;
            for (int i = 0; i < count; i++) {
                for (int what = 0; what < ECHO_VALUES; what++) {
                    h = 31L * h + value(i, what);
                }
            }
            return h;
        }
    }

    /** The distances of one shot's candidates, by which the guard tells blades from what stays. */
    private static final class Distances {
        private int count = 0;
        private final int[] row = new int[MOST_ECHOES];

        void reset() {
            count = 0;
        }

        void copyFrom(Distances other) {
            count = other.count;
            copyRow(other.row, row);
        }

        void takeCandidates(Echoes echoes) {
            count = 0;
            for (int i = 0; i < echoes.count; i++) {
                if (echoes.isMarked(i, Echoes.CANDIDATE) && count < row.length) {
                    row[count] = echoes.distance(i);
                    count++;
                }
            }
        }

        boolean hasNear(int distance) {
            for (int i = 0; i < count && i < row.length; i++) {
                if (Math.abs(row[i] - distance) <= 15) {
                    return true;
                }
            }
            return false;
        }
    }

    /** The picks of the latest shots, what is told by them, the alarm and the accounts. */
    private static final class History {
        /** The latest pick is first; NONE for a shot without one. */
        private final int[] picks = new int[MOST_HISTORY];
        int count;
        int told;
        int misses;
        int alarm;
        int shots;
        int pickedShots;
        int drops;
        int alarms;

        History() {
            reset();
        }

        void reset() {
            count = 0;
            told = NONE;
            misses = 0;
            alarm = NO_ALARM;
            shots = 0;
            pickedShots = 0;
            drops = 0;
            alarms = 0;
        }

        void copyFrom(History other) {
            copyRow(other.picks, picks);
            count = other.count;
            told = other.told;
            misses = other.misses;
            alarm = other.alarm;
            shots = other.shots;
            pickedShots = other.pickedShots;
            drops = other.drops;
            alarms = other.alarms;
        }

        void shorten(int places) {
            count = Math.min(count, places);
        }

        int pickAt(int back) {
            return back >= 0 && back < count && back < picks.length ? picks[back] : NONE;
        }

        int pickCount() {
            int found = 0;
            for (int back = 0; back < count; back++) {
                if (pickAt(back) != NONE) {
                    found++;
                }
            }
            return found;
        }

        int pickSum() {
            int sum = 0;
            for (int back = 0; back < count; back++) {
                if (pickAt(back) != NONE) {
                    sum += pickAt(back);
                }
            }
            return sum;
        }

        int median(int places) {
            int found = pickCount();
            return 2 * found >= places ? pickOfRank((found - 1) / 2) : NONE;
        }

        /** Counts instead of sorting, so that no second row is needed. */
        private int pickOfRank(int rank) {
            for (int back = 0; back < count; back++) {
                int pick = pickAt(back);
                if (pick != NONE && picksBelow(pick) <= rank && rank < picksBelow(pick + 1)) {
                    return pick;
                }
            }
            return NONE;
        }

        private int picksBelow(int distance) {
            int found = 0;
            for (int back = 0; back < count && back < picks.length; back++) {
                if (picks[back] != NONE && picks[back] < distance) {
                    found++;
                }
            }
            return found;
        }

        int toldLevel(int depth) {
            return told != NONE ? depth - told : NONE;
        }

        void enter(int pick, Settings settings, int depth) {
            shots++;
            if (pick != NONE) {
                pickedShots++;
            }
            push(pick, settings.value(PLACES));
            int median = median(settings.value(PLACES));
            if (median != NONE) {
                follow(median, settings.value(SMOOTHING));
                misses = 0;
            } else {
                miss(settings.value(PATIENCE));
            }
            judgeAlarm(toldLevel(depth), settings);
        }

        private void push(int pick, int places) {
            count = Math.min(count + 1, Math.min(places, picks.length));
            for (int back = count - 1; back > 0; back--) {
                picks[back] = picks[back - 1];
            }
            picks[0] = pick;
        }

        private void follow(int median, int smoothing) {
            int step = smoothing > 0 ? (median - told) / smoothing : 0;
            told = told == NONE || step == 0 ? median : told + step;
        }

        private void miss(int patience) {
            misses++;
            if (misses == patience) {
                told = NONE;
                for (int back = 0; back < picks.length; back++) {
                    picks[back] = NONE;
                }
            }
        }

        private void judgeAlarm(int level, Settings settings) {
            int before = alarm;
            if (level == NONE) {
                alarm = NO_ALARM;
            } else if (level <= settings.value(LOW)) {
                alarm = LOW_ALARM;
            } else if (level >= settings.value(HIGH)) {
                alarm = HIGH_ALARM;
            } else if (before == LOW_ALARM && level > settings.value(LOW) + settings.value(MARGIN)
                    || before == HIGH_ALARM && level < settings.value(HIGH) - settings.value(MARGIN)) {
                alarm = NO_ALARM;
            }
            if (alarm != NO_ALARM && alarm != before) {
                alarms++;
            }
        }
    }

    /** The words of the command text, each with how many numbers it takes. */
    private enum Word {
        TANK("tank", 1),
        LEVEL("level", 1),
        FLOW("flow", 1),
        FOAM("foam", 1),
        THING("thing", 2),
        BLADES("blades", 5),
        SET("set", 2),
        LEARN("learn", 1),
        SHOOT("shoot", 1);

        final String text;
        final int numbers;

        Word(String text, int numbers) {
            this.text = text;
            this.numbers = numbers;
        }
    }

    /** The command text with a reader, whose position is left at the fault when reading fails. */
    private static final class CommandText {
        private static final Word[] WORDS = Word.values();
        private static final int END = -1;

        int length = 0;
        private final byte[] bytes = new byte[MOST_BYTES];
        private int position = 0;
        Word word = null;
        private final int[] numbers = new int[MOST_NUMBERS];

        boolean isFull() {
            return length >= MOST_BYTES;
        }

        void append(int value) {
            if (length >= 0 && length < bytes.length) {
                bytes[length] = (byte) value;
                length++;
            }
        }

        int number(int index) {
            return index >= 0 && index < numbers.length ? numbers[index] : 0;
        }

        int fault() {
            rewind();
            for (int i = 0; i < MOST_BYTES && hasMore(); i++) {
                if (!readCommand()) {
                    return position;
                }
            }
            return NONE;
        }

        void rewind() {
            position = 0;
        }

        boolean hasMore() {
            skipSpaces();
            return position < length;
        }

        /** Reads the command at the position; answers false at a fault. */
        boolean readCommand() {
            if (!readWord() || word == null) {
                return false;
            }
            for (int i = 0; i < word.numbers; i++) {
                if (!readNumber(i)) {
                    return false;
                }
            }
            skipSpaces();
            if (byteAt(position) != ';') {
                return false;
            }
            position++;
            return true;
        }

        private boolean readWord() {
            int start = position;
            while (position < length && isLetter(byteAt(position))) {
                position++;
            }
            word = wordBetween(start, position);
            if (word == null) {
                position = start;
                return false;
            }
            return true;
        }

        private boolean readNumber(int index) {
            int start = position;
            skipSpaces();
            if (position == start || !isDigit(byteAt(position)) || index < 0 || index >= numbers.length) {
                return false;
            }
            int value = 0;
            for (int i = 0; i < MOST_DIGITS && isDigit(byteAt(position)); i++) {
                value = 10 * value + byteAt(position) - '0';
                position++;
            }
            numbers[index] = value;
            return true;
        }

        private void skipSpaces() {
            while (position < length && byteAt(position) == ' ') {
                position++;
            }
        }

        private int byteAt(int index) {
            return index >= 0 && index < length && index < bytes.length ? bytes[index] : END;
        }

        private Word wordBetween(int start, int end) {
            for (int i = 0; i < WORDS.length; i++) {
                if (WORDS[i] != null && standsAt(WORDS[i].text, start, end)) {
                    return WORDS[i];
                }
            }
            return null;
        }

        private boolean standsAt(String text, int start, int end) {
            if (text.length() != end - start) {
                return false;
            }
            for (int i = 0; i < text.length(); i++) {
                if (text.charAt(i) != byteAt(start + i)) {
                    return false;
                }
            }
            return true;
        }

        private static boolean isLetter(int value) {
            return value >= 'a' && value <= 'z';
        }

        private static boolean isDigit(int value) {
            return value >= '0' && value <= '9';
        }
    }
}
