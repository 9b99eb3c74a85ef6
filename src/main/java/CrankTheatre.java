/** A toy theatre whose curtains, traps and moon are worked by one crank; shared/DOC.md tells its promises. */
public final class CrankTheatre {
    public static final int NONE = -1;

    private static final int WHEELS = 5;
    private static final int MOON = 4;
    private static final int FEWEST_TEETH = 2;
    private static final int MOST_TEETH = 12;
    private static final int MOST_BY_HAND = 11;
    private static final int GREATEST_HEIGHT = 9;
    private static final int OUT = 5;
    private static final int[] FIRST_TEETH = {4, 6, 8, 9, 12};
    private static final int[] FIRST_MOON = {0, 1, 2, 3, 4, 5, 6, 5, 4, 3, 2, 1};
    private static final int FIRST_SETTING = 4;

    private static final int PLACES = 60;
    private static final int FARTHEST = 9999;
    private static final int MOST_TURNED = 60;
    private static final int FORWARD = 1;
    private static final int BACK = -1;

    private static final int MOST_SCENES = 6;
    private static final int MOST_SAVED = 6;

    private static final int FIRST_CODE = 33;
    private static final int LAST_CODE = 126;
    private static final int MOST_CODES = 60;
    private static final int MOST_BRACKETS = 3;
    private static final int MOST_STEPS = 2000;

    private static final int CAN_BE_MADE = 0;
    private static final int CURTAIN_IN = 1;
    private static final int MOON_TOO_HIGH = 2;
    private static final int CAUGHT = 3;
    private static final int TOO_FAR = 4;
    private static final int TOO_MANY_STEPS = 5;

    private static final int LAST_OF_WHEEL = 6;
    private static final int LAST_OF_SCENE = 7;
    private static final int LAST_OF_COUNT = 12;
    private static final int STEPS_IN_DIGEST = 7;

    // The longest round has 27720 steps (5, 7, 8, 9 and 11 teeth); a text has below 40000 parts to do.
    private static final int ROUND_BOUND = 1000000;
    private static final int PARTS_BOUND = 1000000;

    private final State state;
    private final State snapshot;
    private boolean kept;
    private final History history;
    private final Text text;
    private final Performer performer;
    // What would be is tried on these wheels: made once, since a call that made its own would fill the room.
    private final Wheels trial;

    public CrankTheatre() {
        state = new State();
        snapshot = new State();
        kept = false;
        history = new History();
        text = new Text();
        performer = new Performer();
        trial = new Wheels();
    }

    // ---- the crank

    public int turn(int steps) throws IllegalArgumentException {
        if (steps == 0 || steps < -MOST_TURNED || steps > MOST_TURNED) {
            throw new IllegalArgumentException("steps are 1 to 60 or -60 to -1");
        }
        history.push(state);
        int direction = steps > 0 ? FORWARD : BACK;
        int wanted = steps > 0 ? steps : -steps;
        for (int made = 0; made < wanted; made++) {
            if (state.reasonAgainst(state.wheels, direction) != CAN_BE_MADE) {
                return made;
            }
            state.makeStep(direction);
        }
        return wanted;
    }

    public int lift() {
        history.push(state);
        int caught = toNumber(state.isCaught());
        state.lifted = true;
        return caught;
    }

    public int stop(int place) throws IndexOutOfBoundsException {
        if (place < 0 || place >= PLACES) {
            throw new IndexOutOfBoundsException("places are 0 to 59");
        }
        history.push(state);
        state.stops[place] = !state.stops[place];
        return state.countStops();
    }

    // ---- wheels

    public int clutch(int wheel) throws IndexOutOfBoundsException {
        if (!isWheel(wheel)) {
            throw new IndexOutOfBoundsException("wheels are 0 to 4");
        }
        history.push(state);
        state.wheels.switchClutch(wheel);
        return toNumber(state.wheels.locked[wheel]);
    }

    public int hand(int wheel, int teeth)
            throws IndexOutOfBoundsException, IllegalArgumentException, IllegalStateException {
        if (!isWheel(wheel)) {
            throw new IndexOutOfBoundsException("wheels are 0 to 4");
        }
        if (teeth < 1 || teeth > MOST_BY_HAND) {
            throw new IllegalArgumentException("teeth are 1 to 11");
        }
        if (state.wheels.locked[wheel]) {
            throw new IllegalStateException("the wheel is locked");
        }
        trial.copy(state.wheels);
        trial.turnByHand(wheel, teeth);
        if (trial.faultBehind(0, state.setting) != CAN_BE_MADE) {
            throw new IllegalStateException("the picture would not be allowed");
        }
        history.push(state);
        state.wheels.turnByHand(wheel, teeth);
        return state.wheels.tops[wheel];
    }

    public int file(int wheel, int tooth, int height)
            throws IndexOutOfBoundsException, IllegalArgumentException, IllegalStateException {
        if (!isTooth(wheel, tooth)) {
            throw new IndexOutOfBoundsException("there is no such wheel or tooth");
        }
        if (!isHeight(height)) {
            throw new IllegalArgumentException("heights are 0 to 9");
        }
        trial.copy(state.wheels);
        trial.putHeight(wheel, tooth, height);
        if (trial.faultBehind(0, state.setting) != CAN_BE_MADE) {
            throw new IllegalStateException("the picture would not be allowed");
        }
        history.push(state);
        int before = state.wheels.heightAt(wheel, tooth);
        state.wheels.putHeight(wheel, tooth, height);
        return before;
    }

    public int change(int wheel, int teeth) throws IndexOutOfBoundsException, IllegalArgumentException {
        if (!isWheel(wheel)) {
            throw new IndexOutOfBoundsException("wheels are 0 to 4");
        }
        if (teeth < FEWEST_TEETH || teeth > MOST_TEETH) {
            throw new IllegalArgumentException("a wheel has 2 to 12 teeth");
        }
        history.push(state);
        int before = state.wheels.teeth[wheel];
        state.wheels.giveTeeth(wheel, teeth);
        return before;
    }

    public int set(int height) throws IllegalArgumentException, IllegalStateException {
        if (!isHeight(height)) {
            throw new IllegalArgumentException("heights are 0 to 9");
        }
        if (state.wheels.faultBehind(0, height) != CAN_BE_MADE) {
            throw new IllegalStateException("the picture would not be allowed");
        }
        history.push(state);
        int before = state.setting;
        state.setting = height;
        return before;
    }

    // ---- scenes

    public int remember() throws IllegalStateException {
        if (state.sceneCount >= MOST_SCENES) {
            throw new IllegalStateException("6 scenes are remembered");
        }
        history.push(state);
        state.addScene();
        return state.sceneCount - 1;
    }

    public int forget(int scene) throws IndexOutOfBoundsException {
        if (!isScene(scene)) {
            throw new IndexOutOfBoundsException("there is no such scene");
        }
        history.push(state);
        state.dropScene(scene);
        return state.sceneCount;
    }

    // ---- texts, the snapshot

    public int append(int code) throws IllegalArgumentException, IllegalStateException {
        if (code < FIRST_CODE || code > LAST_CODE) {
            throw new IllegalArgumentException("character codes are 33 to 126");
        }
        if (text.length >= MOST_CODES) {
            throw new IllegalStateException("the buffer has 60 characters");
        }
        text.add(code);
        return text.length;
    }

    public int clearBuffer() {
        int before = text.length;
        text.length = 0;
        return before;
    }

    public int firstError() {
        return text.read();
    }

    public int work() throws IllegalArgumentException {
        if (!text.isComplete()) {
            throw new IllegalArgumentException("the buffer is not complete work as a text");
        }
        history.push(state);
        int made = performer.perform(text, state);
        text.length = 0;
        return made;
    }

    public int keep() {
        snapshot.copy(state);
        kept = true;
        return state.sceneCount;
    }

    public int goBack() throws IllegalStateException {
        if (!kept) {
            throw new IllegalStateException("there is no snapshot");
        }
        history.push(state);
        state.copy(snapshot);
        return state.sceneCount;
    }

    public int undo() throws IllegalStateException {
        if (history.size == 0) {
            throw new IllegalStateException("there is no saved state");
        }
        history.pop(state);
        return history.size;
    }

    // ---- looks; nothing is changed

    public int wheel(int wheel, int what) throws IndexOutOfBoundsException, IllegalArgumentException {
        if (!isWheel(wheel)) {
            throw new IndexOutOfBoundsException("wheels are 0 to 4");
        }
        if (what < 0 || what > LAST_OF_WHEEL) {
            throw new IllegalArgumentException("what is 0 to 6");
        }
        switch (what) {
            case 0:
                return state.wheels.teeth[wheel];
            case 1:
                return state.wheels.tops[wheel];
            case 2:
                return state.wheels.topByDeeds(wheel);
            case 3:
                return state.wheels.heightBehind(wheel, 0);
            case 4:
                return toNumber(state.wheels.locked[wheel]);
            case 5:
                return toNumber(state.wheels.heightBehind(wheel, 0) >= OUT);
            default:
                return state.wheels.countHighTeeth(wheel);
        }
    }

    public int tooth(int wheel, int tooth) throws IndexOutOfBoundsException {
        if (!isTooth(wheel, tooth)) {
            throw new IndexOutOfBoundsException("there is no such wheel or tooth");
        }
        return state.wheels.heightAt(wheel, tooth);
    }

    public int scene(int scene, int what) throws IndexOutOfBoundsException, IllegalArgumentException {
        if (!isScene(scene)) {
            throw new IndexOutOfBoundsException("there is no such scene");
        }
        if (what < 0 || what > LAST_OF_SCENE) {
            throw new IllegalArgumentException("what is 0 to 7");
        }
        switch (what) {
            case 5:
                return toNumber(state.isSceneBehind(scene, 0));
            case 6:
                return toNumber(state.faultOfScene(scene) == CAN_BE_MADE);
            case 7:
                return stepsToScene(scene);
            default:
                return state.heightInScene(scene, what);
        }
    }

    public int count(int what) throws IllegalArgumentException {
        if (what < 0 || what > LAST_OF_COUNT) {
            throw new IllegalArgumentException("what is 0 to 12");
        }
        switch (what) {
            case 0:
                return state.crank;
            case 1:
                return state.place();
            case 2:
                return toNumber(state.isCaught());
            case 3:
                return state.stepsForward;
            case 4:
                return state.stepsBack;
            case 5:
                return state.wheels.countLocked();
            case 6:
                return state.countStops();
            case 7:
                return state.sceneCount;
            case 8:
                return state.wheels.countOut();
            case 9:
                return state.setting;
            case 10:
                return state.latestStop;
            case 11:
                return toNumber(state.lifted);
            default:
                return history.size;
        }
    }

    public int why(int back) throws IllegalArgumentException {
        if (!isDirection(back)) {
            throw new IllegalArgumentException("back is 0 or 1");
        }
        return state.reasonAgainst(state.wheels, toDirection(back));
    }

    // ---- what would be; nothing is changed

    public int round(int way) throws IllegalArgumentException {
        if (way < 0 || way > 1) {
            throw new IllegalArgumentException("way is 0 or 1");
        }
        return way == 0 ? roundBySteps() : state.wheels.roundByTeeth();
    }

    public int jamsIn(int back) throws IllegalArgumentException {
        if (!isDirection(back)) {
            throw new IllegalArgumentException("back is 0 or 1");
        }
        int direction = toDirection(back);
        int steps = state.wheels.roundByTeeth();
        for (int step = 1; step <= steps; step++) {
            if (state.wheels.faultBehind(direction * step, state.setting) != CAN_BE_MADE) {
                return step - 1;
            }
        }
        return NONE;
    }

    public int ahead(int steps, int wheel) throws IndexOutOfBoundsException, IllegalArgumentException {
        if (!isWheel(wheel)) {
            throw new IndexOutOfBoundsException("wheels are 0 to 4");
        }
        if (steps < -FARTHEST || steps > FARTHEST) {
            throw new IllegalArgumentException("steps are -9999 to 9999");
        }
        return state.wheels.heightBehind(wheel, steps);
    }

    public int frees(int back) throws IllegalArgumentException {
        if (!isDirection(back)) {
            throw new IllegalArgumentException("back is 0 or 1");
        }
        int direction = toDirection(back);
        if (state.reasonAgainst(state.wheels, direction) == CAN_BE_MADE) {
            return NONE;
        }
        for (int wheel = 0; wheel < WHEELS; wheel++) {
            if (!state.wheels.locked[wheel]) {
                continue;
            }
            trial.copy(state.wheels);
            trial.switchClutch(wheel);
            if (state.reasonAgainst(trial, direction) == CAN_BE_MADE) {
                return wheel;
            }
        }
        return NONE;
    }

    public double allowedShare() {
        int steps = state.wheels.roundByTeeth();
        if (steps < 1) {
            return 0;
        }
        int allowed = 0;
        for (int step = 0; step < steps; step++) {
            if (state.wheels.faultBehind(step, state.setting) == CAN_BE_MADE) {
                allowed++;
            }
        }
        return (double) allowed / steps;
    }

    public float meanHeight() {
        int sum = 0;
        for (int wheel = 0; wheel < WHEELS; wheel++) {
            sum += state.wheels.heightBehind(wheel, 0);
        }
        return (float) sum / WHEELS;
    }

    public long digest() {
        long hash = 3847;
        for (int what = 0; what <= LAST_OF_COUNT; what++) {
            hash = mix(hash, count(what));
        }
        hash = mixWheels(hash);
        for (int place = 0; place < PLACES; place++) {
            hash = mix(hash, toNumber(state.stops[place]));
        }
        hash = mixScenes(hash);
        hash = mixWhatWouldBe(hash);
        hash = mix(hash, toNumber(kept));
        hash = mix(hash, text.length);
        for (int at = 0; at < text.length; at++) {
            hash = mix(hash, text.codeAt(at));
        }
        return hash;
    }

    // ---- what the calls lean on

    private static boolean isWheel(int wheel) {
        return wheel >= 0 && wheel < WHEELS;
    }

    private static boolean isHeight(int height) {
        return height >= 0 && height <= GREATEST_HEIGHT;
    }

    private static boolean isDirection(int back) {
        return back == 0 || back == 1;
    }

    private boolean isTooth(int wheel, int tooth) {
        return isWheel(wheel) && tooth >= 0 && tooth < state.wheels.teeth[wheel];
    }

    private boolean isScene(int scene) {
        return scene >= 0 && scene < state.sceneCount;
    }

    private static int toDirection(int back) {
        return back == 0 ? FORWARD : BACK;
    }

    private static int toNumber(boolean yes) {
        return yes ? 1 : 0;
    }

    private static int modulo(int value, int divisor) {
        if (divisor < 1) {
            return 0;
        }
        int rest = value % divisor;
        return rest < 0 ? rest + divisor : rest;
    }

    private int stepsToScene(int scene) {
        int steps = state.wheels.roundByTeeth();
        for (int step = 0; step < steps; step++) {
            if (state.isSceneBehind(scene, step)) {
                return step;
            }
        }
        return NONE;
    }

    private int roundBySteps() {
        trial.copy(state.wheels);
        for (int steps = 1; steps < ROUND_BOUND; steps++) {
            trial.turnLocked(FORWARD);
            if (trial.hasTopsOf(state.wheels)) {
                return steps;
            }
        }
        return NONE;
    }

    private static long mix(long hash, long value) {
        return 31 * hash + value;
    }

    private long mixWheels(long before) {
        long hash = before;
        for (int wheel = 0; wheel < WHEELS; wheel++) {
            for (int what = 0; what <= LAST_OF_WHEEL; what++) {
                hash = mix(hash, wheel(wheel, what));
            }
            for (int tooth = 0; tooth < state.wheels.teeth[wheel]; tooth++) {
                hash = mix(hash, state.wheels.heightAt(wheel, tooth));
            }
        }
        return hash;
    }

    private long mixScenes(long before) {
        long hash = before;
        for (int scene = 0; scene < state.sceneCount; scene++) {
            for (int what = 0; what <= LAST_OF_SCENE; what++) {
                hash = mix(hash, scene(scene, what));
            }
        }
        return hash;
    }

    private long mixWhatWouldBe(long before) {
        long hash = mix(mix(before, why(0)), why(1));
        hash = mix(mix(hash, round(0)), round(1));
        hash = mix(mix(hash, jamsIn(0)), jamsIn(1));
        hash = mix(mix(hash, frees(0)), frees(1));
        for (int wheel = 0; wheel < WHEELS; wheel++) {
            hash = mix(hash, ahead(STEPS_IN_DIGEST, wheel));
        }
        hash = mix(hash, bitsOf(allowedShare(), 52, 1023));
        return mix(hash, bitsOf(meanHeight(), 23, 127));
    }

    /**
     * The bits of a share of 0 or more, as doubleToLongBits and floatToIntBits tell them; those two are outside the
     * language of this program. Doubling, halving and the rest of it are exact here.
     */
    private static long bitsOf(double value, int fractionBits, int bias) {
        if (value <= 0) {
            return 0;
        }
        double part = value;
        int exponent = bias;
        for (int times = 0; times < bias && part < 1; times++) {
            part = part * 2;
            exponent--;
        }
        for (int times = 0; times < bias && part >= 2; times++) {
            part = part / 2;
            exponent++;
        }
        long one = 1L << fractionBits;
        return exponent * one + (long) ((part - 1) * one);
    }

    /** Why a picture is not allowed; 0 if it is. */
    private static int faultOf(int curtain, int otherCurtain, int trap, int otherTrap, int moon, int setting) {
        boolean aTrapIsOut = trap >= OUT || otherTrap >= OUT;
        boolean bothTrapsAreOut = trap >= OUT && otherTrap >= OUT;
        boolean bothCurtainsAreOut = curtain >= OUT && otherCurtain >= OUT;
        if (aTrapIsOut && !bothCurtainsAreOut) {
            return CURTAIN_IN;
        }
        return bothTrapsAreOut && moon > setting ? MOON_TOO_HIGH : CAN_BE_MADE;
    }

    /** The five wheels, a row for each of their numbers, so that a copy makes no new object. */
    private static final class Wheels {
        private final int[] teeth = new int[WHEELS];
        private final int[] tops = new int[WHEELS];
        private final boolean[] locked = new boolean[WHEELS];
        private final int[] cranked = new int[WHEELS];
        private final int[] handed = new int[WHEELS];
        private final int[] heights = new int[WHEELS * MOST_TEETH];

        Wheels() {
            for (int wheel = 0; wheel < WHEELS; wheel++) {
                teeth[wheel] = FIRST_TEETH[wheel];
                locked[wheel] = true;
                for (int tooth = 0; tooth < MOST_TEETH; tooth++) {
                    heights[wheel * MOST_TEETH + tooth] = firstHeight(wheel, tooth);
                }
            }
        }

        private static int firstHeight(int wheel, int tooth) {
            if (wheel == MOON) {
                return tooth >= 0 && tooth < FIRST_MOON.length ? FIRST_MOON[tooth] : 0;
            }
            return wheel < 2 ? GREATEST_HEIGHT : 0;
        }

        void copy(Wheels from) {
            for (int wheel = 0; wheel < WHEELS; wheel++) {
                teeth[wheel] = from.teeth[wheel];
                tops[wheel] = from.tops[wheel];
                locked[wheel] = from.locked[wheel];
                cranked[wheel] = from.cranked[wheel];
                handed[wheel] = from.handed[wheel];
            }
            System.arraycopy(from.heights, 0, heights, 0, WHEELS * MOST_TEETH);
        }

        int heightAt(int wheel, int tooth) {
            int at = wheel * MOST_TEETH + tooth;
            return at >= 0 && at < heights.length ? heights[at] : 0;
        }

        void putHeight(int wheel, int tooth, int height) {
            int at = wheel * MOST_TEETH + tooth;
            if (at >= 0 && at < heights.length) {
                heights[at] = height;
            }
        }

        void switchClutch(int wheel) {
            if (isWheel(wheel)) {
                locked[wheel] = !locked[wheel];
            }
        }

        void turnLocked(int direction) {
            for (int wheel = 0; wheel < WHEELS; wheel++) {
                if (locked[wheel]) {
                    tops[wheel] = modulo(tops[wheel] + direction, teeth[wheel]);
                    cranked[wheel] += direction;
                }
            }
        }

        void turnByHand(int wheel, int by) {
            tops[wheel] = modulo(tops[wheel] + by, teeth[wheel]);
            handed[wheel] += by;
        }

        void giveTeeth(int wheel, int number) {
            int height = heightBehind(wheel, 0);
            for (int tooth = 0; tooth < number; tooth++) {
                putHeight(wheel, tooth, height);
            }
            teeth[wheel] = number;
            tops[wheel] = 0;
            cranked[wheel] = 0;
            handed[wheel] = 0;
        }

        /** The height of a wheel behind some steps, back if they are below 0; now, if they are 0. */
        int heightBehind(int wheel, int steps) {
            int turned = locked[wheel] ? steps : 0;
            return heightAt(wheel, modulo(tops[wheel] + turned, teeth[wheel]));
        }

        int faultBehind(int steps, int setting) {
            return faultOf(heightBehind(0, steps), heightBehind(1, steps), heightBehind(2, steps),
                    heightBehind(3, steps), heightBehind(MOON, steps), setting);
        }

        int topByDeeds(int wheel) {
            return modulo(cranked[wheel] + handed[wheel], teeth[wheel]);
        }

        boolean hasTopsOf(Wheels other) {
            for (int wheel = 0; wheel < WHEELS; wheel++) {
                if (tops[wheel] != other.tops[wheel]) {
                    return false;
                }
            }
            return true;
        }

        int roundByTeeth() {
            int common = 1;
            for (int wheel = 0; wheel < WHEELS; wheel++) {
                if (locked[wheel]) {
                    common = leastMultiple(common, teeth[wheel]);
                }
            }
            return common;
        }

        private static int leastMultiple(int number, int other) {
            for (int times = 1; times < other; times++) {
                if (modulo(number * times, other) == 0) {
                    return number * times;
                }
            }
            return number * other;
        }

        int countLocked() {
            int found = 0;
            for (int wheel = 0; wheel < WHEELS; wheel++) {
                found += toNumber(locked[wheel]);
            }
            return found;
        }

        int countOut() {
            int found = 0;
            for (int wheel = 0; wheel < WHEELS; wheel++) {
                found += toNumber(heightBehind(wheel, 0) >= OUT);
            }
            return found;
        }

        int countHighTeeth(int wheel) {
            int found = 0;
            for (int tooth = 0; tooth < teeth[wheel]; tooth++) {
                found += toNumber(heightAt(wheel, tooth) >= OUT);
            }
            return found;
        }
    }

    /** All that undo() and goBack() restore. */
    private static final class State {
        private final Wheels wheels = new Wheels();
        private final boolean[] stops = new boolean[PLACES];
        private final int[] scenes = new int[MOST_SCENES * WHEELS];
        private int sceneCount;
        private int crank;
        private boolean lifted;
        private int stepsForward;
        private int stepsBack;
        private int setting = FIRST_SETTING;
        private int latestStop;

        void copy(State from) {
            wheels.copy(from.wheels);
            for (int place = 0; place < PLACES; place++) {
                stops[place] = from.stops[place];
            }
            System.arraycopy(from.scenes, 0, scenes, 0, MOST_SCENES * WHEELS);
            sceneCount = from.sceneCount;
            crank = from.crank;
            lifted = from.lifted;
            stepsForward = from.stepsForward;
            stepsBack = from.stepsBack;
            setting = from.setting;
            latestStop = from.latestStop;
        }

        int place() {
            return modulo(crank, PLACES);
        }

        boolean isCaught() {
            int place = place();
            return !lifted && place >= 0 && place < PLACES && stops[place];
        }

        int countStops() {
            int found = 0;
            for (int place = 0; place < PLACES; place++) {
                found += toNumber(stops[place]);
            }
            return found;
        }

        /** Why a step can not be made with these wheels; they may be other than its own, to try what would be. */
        int reasonAgainst(Wheels tried, int direction) {
            int fault = tried.faultBehind(direction, setting);
            if (fault != CAN_BE_MADE) {
                return fault;
            }
            if (isCaught()) {
                return CAUGHT;
            }
            int behind = crank + direction;
            return behind > FARTHEST || behind < -FARTHEST ? TOO_FAR : CAN_BE_MADE;
        }

        void makeStep(int direction) {
            wheels.turnLocked(direction);
            crank += direction;
            lifted = false;
            if (direction > 0) {
                stepsForward++;
            } else {
                stepsBack++;
            }
        }

        void addScene() {
            if (sceneCount < 0 || sceneCount >= MOST_SCENES) {
                return;
            }
            for (int wheel = 0; wheel < WHEELS; wheel++) {
                scenes[sceneCount * WHEELS + wheel] = wheels.heightBehind(wheel, 0);
            }
            sceneCount++;
        }

        void dropScene(int scene) {
            for (int next = scene + 1; next < sceneCount; next++) {
                System.arraycopy(scenes, next * WHEELS, scenes, (next - 1) * WHEELS, WHEELS);
            }
            sceneCount--;
        }

        int heightInScene(int scene, int wheel) {
            boolean isThere = scene >= 0 && scene < MOST_SCENES && isWheel(wheel);
            return isThere ? scenes[scene * WHEELS + wheel] : 0;
        }

        int faultOfScene(int scene) {
            return faultOf(heightInScene(scene, 0), heightInScene(scene, 1), heightInScene(scene, 2),
                    heightInScene(scene, 3), heightInScene(scene, MOON), setting);
        }

        boolean isSceneBehind(int scene, int steps) {
            for (int wheel = 0; wheel < WHEELS; wheel++) {
                if (wheels.heightBehind(wheel, steps) != heightInScene(scene, wheel)) {
                    return false;
                }
            }
            return true;
        }
    }

    /** The saved states, the oldest one first; their rooms are made once and used again. */
    private static final class History {
        private final State[] rooms = new State[MOST_SAVED];
        private int size;

        History() {
            for (int room = 0; room < MOST_SAVED; room++) {
                rooms[room] = new State();
            }
        }

        void push(State state) {
            if (size >= MOST_SAVED) {
                dropOldest();
            }
            if (size >= 0 && size < MOST_SAVED && rooms[size] != null) {
                rooms[size].copy(state);
                size++;
            }
        }

        void pop(State into) {
            int latest = size - 1;
            if (latest >= 0 && latest < MOST_SAVED && rooms[latest] != null) {
                into.copy(rooms[latest]);
                size = latest;
            }
        }

        private void dropOldest() {
            State freed = rooms[0];
            for (int room = 1; room < MOST_SAVED; room++) {
                rooms[room - 1] = rooms[room];
            }
            rooms[MOST_SAVED - 1] = freed;
            size = MOST_SAVED - 1;
        }
    }

    /** The buffer, and the reader that tells what may stand where in it. */
    private static final class Text {
        private static final int PART = 0;
        private static final int FIRST_FIGURE = 1;
        private static final int SECOND_FIGURE = 2;
        private static final int BEHIND_PART = 3;
        private static final int WHEEL_FIGURE = 4;
        private static final int TIMES_FIGURE = 5;
        private static final int WRONG = 6;

        private final int[] codes = new int[MOST_CODES];
        private int length;
        // Where the reader stands: what it awaits next, the brackets that are open, the latest first figure.
        private int awaited;
        private int open;
        private int figure;

        void add(int code) {
            if (length >= 0 && length < MOST_CODES) {
                codes[length] = code;
                length++;
            }
        }

        int codeAt(int at) {
            return at >= 0 && at < length && at < MOST_CODES ? codes[at] : 0;
        }

        /** NONE where no figure stands. */
        int figureAt(int at) {
            int code = codeAt(at);
            return code >= '0' && code <= '9' ? code - '0' : NONE;
        }

        /** Reads from the left to the first syntax error; the length if there is none. */
        int read() {
            awaited = PART;
            open = 0;
            for (int at = 0; at < length; at++) {
                awaited = awaitedBehind(codeAt(at));
                if (awaited == WRONG) {
                    return at;
                }
            }
            return length;
        }

        boolean isComplete() {
            return read() == length && open == 0 && (awaited == BEHIND_PART || awaited == SECOND_FIGURE);
        }

        private int awaitedBehind(int code) {
            switch (awaited) {
                case FIRST_FIGURE:
                    figure = code - '0';
                    return isBetween(code, '1', '9') ? SECOND_FIGURE : WRONG;
                case SECOND_FIGURE:
                    if (isBetween(code, '0', '9')) {
                        return figure * 10 + code - '0' <= MOST_TURNED ? BEHIND_PART : WRONG;
                    }
                    return awaitedBehindPart(code);
                case BEHIND_PART:
                    return awaitedBehindPart(code);
                case WHEEL_FIGURE:
                    return isBetween(code, '0', '4') ? BEHIND_PART : WRONG;
                case TIMES_FIGURE:
                    return isBetween(code, '2', '9') ? BEHIND_PART : WRONG;
                default:
                    return awaitedInPart(code);
            }
        }

        private int awaitedBehindPart(int code) {
            if (code != ')') {
                return awaitedInPart(code);
            }
            if (open < 1) {
                return WRONG;
            }
            open--;
            return TIMES_FIGURE;
        }

        private int awaitedInPart(int code) {
            switch (code) {
                case '+':
                case '-':
                    return FIRST_FIGURE;
                case 'k':
                    return WHEEL_FIGURE;
                case 'l':
                    return BEHIND_PART;
                case '(':
                    open++;
                    return open <= MOST_BRACKETS ? PART : WRONG;
                default:
                    return WRONG;
            }
        }

        private static boolean isBetween(int code, int least, int greatest) {
            return code >= least && code <= greatest;
        }
    }

    /** Does complete work as a text, part by part. */
    private static final class Performer {
        private final int[] starts = new int[MOST_BRACKETS];
        private final int[] timesDone = new int[MOST_BRACKETS];
        private int open;
        private int made;
        private int end;

        /** How many steps are made; why it ended becomes the latest stop of the state. */
        int perform(Text text, State state) {
            open = 0;
            made = 0;
            end = CAN_BE_MADE;
            int at = 0;
            for (int parts = 0; parts < PARTS_BOUND && at < text.length && end == CAN_BE_MADE; parts++) {
                int code = text.codeAt(at);
                boolean isTurn = code == '+' || code == '-';
                at = isTurn ? doTurn(text, at, state) : doOther(text, at, state);
            }
            state.latestStop = end;
            return made;
        }

        /** Where the next part begins. */
        private int doOther(Text text, int at, State state) {
            switch (text.codeAt(at)) {
                case 'k':
                    state.wheels.switchClutch(text.figureAt(at + 1));
                    return at + 2;
                case 'l':
                    state.lifted = true;
                    return at + 1;
                case '(':
                    openBracket(at + 1);
                    return at + 1;
                default:
                    return closeBracket(text.figureAt(at + 1), at + 2);
            }
        }

        /** Where the next part begins. */
        private int doTurn(Text text, int at, State state) {
            int direction = text.codeAt(at) == '+' ? FORWARD : BACK;
            int first = text.figureAt(at + 1);
            int second = text.figureAt(at + 2);
            int wanted = second == NONE ? first : first * 10 + second;
            for (int step = 0; step < wanted && end == CAN_BE_MADE; step++) {
                end = made >= MOST_STEPS ? TOO_MANY_STEPS : state.reasonAgainst(state.wheels, direction);
                if (end == CAN_BE_MADE) {
                    state.makeStep(direction);
                    made++;
                }
            }
            return second == NONE ? at + 2 : at + 3;
        }

        private void openBracket(int start) {
            if (open >= 0 && open < MOST_BRACKETS) {
                starts[open] = start;
                timesDone[open] = 0;
                open++;
            }
        }

        /** Where it goes on: at the start of the bracket while its times are not all done, or behind it. */
        private int closeBracket(int times, int behind) {
            int bracket = open - 1;
            if (bracket < 0 || bracket >= MOST_BRACKETS) {
                return behind;
            }
            timesDone[bracket]++;
            if (timesDone[bracket] < times) {
                return starts[bracket];
            }
            open = bracket;
            return behind;
        }
    }
}
