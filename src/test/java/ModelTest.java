import java.util.ArrayList;
import java.util.List;
import java.util.function.IntSupplier;
import java.util.regex.Pattern;

/** Long runs of calls, each answer set beside that of a plain model which was written apart from the class. */
public final class ModelTest {
    private static final int RUNS = 600;
    // An object is used for 512 calls; a step of a run makes below 80.
    private static final int CALLS = 430;
    private static final int LONGEST_TEXT = 64;
    private static long seed = 1;
    private static int calls = 0;

    public static void main(String[] args) {
        for (int run = 0; run < RUNS; run++) {
            seed = 7919L * run + 17;
            play(run);
        }
        Check.end();
    }

    /** 0 up to bound - 1; the same row of numbers each time. */
    private static int pick(int bound) {
        seed = seed * 6364136223846793005L + 1442695040888963407L;
        return (int) ((seed >>> 33) % bound);
    }

    /** Mostly within least to greatest, now and then beside it. */
    private static int near(int least, int greatest) {
        int far = pick(40);
        if (far == 0) {
            return least - 1;
        }
        return far == 1 ? greatest + 1 : least + pick(greatest - least + 1);
    }

    private static void play(int run) {
        CrankTheatre x = new CrankTheatre();
        Model m = new Model();
        calls = 0;
        for (int step = 1; calls < CALLS; step++) {
            String what = "run " + run + ", step " + step + ": ";
            step(what, x, m, run % 3 == 0);
            if (step % 25 == 0 || calls >= CALLS) {
                Check.equal(what + "digest", x.digest(), m.digest());
                calls++;
            }
        }
    }

    private static void step(String what, CrankTheatre x, Model m, boolean changesOften) {
        int wheel = near(0, 4);
        int tooth = near(0, wheel >= 0 && wheel < 5 ? m.now.teeth[wheel].length - 1 : 3);
        int number = near(0, 9);
        switch (pick(30)) {
            case 0: case 1: case 2:
                int steps = near(-60, 60);
                both(what + "turn " + steps, () -> x.turn(steps), () -> m.turn(steps));
                break;
            case 3: both(what + "lift", x::lift, m::lift); break;
            case 4:
                int place = pick(3) == 0 ? near(0, 59) : m.place();
                both(what + "stop " + place, () -> x.stop(place), () -> m.stop(place));
                break;
            case 5: case 6: both(what + "clutch " + wheel, () -> x.clutch(wheel), () -> m.clutch(wheel)); break;
            case 7: case 8:
                int by = near(1, 11);
                both(what + "hand " + wheel + " " + by, () -> x.hand(wheel, by), () -> m.hand(wheel, by));
                break;
            case 9: case 10: case 11: case 12: case 13:
                both(what + "file " + wheel + " " + tooth + " " + number, () -> x.file(wheel, tooth, number),
                    () -> m.file(wheel, tooth, number));
                break;
            case 14:
                int teeth = changesOften || pick(8) == 0 ? near(2, 12) : 2 + pick(3) * 2;
                both(what + "change " + wheel + " " + teeth, () -> x.change(wheel, teeth), () -> m.change(wheel, teeth));
                break;
            case 15: both(what + "set " + number, () -> x.set(number), () -> m.set(number)); break;
            case 16: both(what + "remember", x::remember, m::remember); break;
            case 17:
                int scene = near(0, 5);
                both(what + "forget " + scene, () -> x.forget(scene), () -> m.forget(scene));
                break;
            case 18: case 19: case 20: typeAndWork(what, x, m); break;
            case 21: both(what + "keep", x::keep, m::keep); break;
            case 22: both(what + "goBack", x::goBack, m::goBack); break;
            case 23: case 24: both(what + "undo", x::undo, m::undo); break;
            default: look(what, x, m, wheel, tooth); break;
        }
    }

    private static void look(String what, CrankTheatre x, Model m, int wheel, int tooth) {
        int of = near(0, 6);
        both(what + "wheel " + wheel + " " + of, () -> x.wheel(wheel, of), () -> m.wheel(wheel, of));
        both(what + "tooth " + wheel + " " + tooth, () -> x.tooth(wheel, tooth), () -> m.tooth(wheel, tooth));
        int scene = near(0, 5);
        int told = near(0, 7);
        both(what + "scene " + scene + " " + told, () -> x.scene(scene, told), () -> m.scene(scene, told));
        int counted = near(0, 12);
        both(what + "count " + counted, () -> x.count(counted), () -> m.count(counted));
        int back = near(0, 1);
        both(what + "why " + back, () -> x.why(back), () -> m.why(back));
        both(what + "round " + back, () -> x.round(back), () -> m.round(back));
        both(what + "jamsIn " + back, () -> x.jamsIn(back), () -> m.jamsIn(back));
        both(what + "frees " + back, () -> x.frees(back), () -> m.frees(back));
        int steps = near(-9999, 9999);
        both(what + "ahead " + steps + " " + wheel, () -> x.ahead(steps, wheel), () -> m.ahead(steps, wheel));
        calls += 2;
        Check.equalShare(what + "allowedShare", x.allowedShare(), m.allowedShare());
        Check.equalShare(what + "meanHeight", x.meanHeight(), m.meanHeight());
    }

    private static void typeAndWork(String what, CrankTheatre x, Model m) {
        if (pick(3) == 0) {
            both(what + "clearBuffer", x::clearBuffer, m::clearBuffer);
        }
        String text = parts(0);
        if (pick(3) == 0 && !text.isEmpty()) {
            int at = pick(text.length());
            text = text.substring(0, at) + "+-kl()0123456789x".charAt(pick(17)) + text.substring(at + pick(2));
        }
        for (char sign : text.substring(0, Math.min(text.length(), LONGEST_TEXT)).toCharArray()) {
            both(what + "append " + (int) sign, () -> x.append(sign), () -> m.append(sign));
        }
        both(what + "firstError of " + m.buffer, x::firstError, m::firstError);
        both(what + "work of " + m.buffer, x::work, m::work);
    }

    private static String parts(int depth) {
        StringBuilder text = new StringBuilder();
        for (int parts = 1 + pick(3); parts > 0; parts--) {
            int kind = pick(depth < 3 ? 9 : 6);
            if (kind < 4) {
                text.append(pick(2) == 0 ? '+' : '-').append(1 + pick(pick(2) == 0 ? 9 : 60));
            } else if (kind == 4) {
                text.append('k').append(pick(5));
            } else if (kind == 5) {
                text.append('l');
            } else {
                text.append('(').append(parts(depth + 1)).append(')').append(2 + pick(8));
            }
        }
        return text.toString();
    }

    private static void both(String what, IntSupplier call, IntSupplier model) {
        calls++;
        String got = answer(call);
        String due = answer(model);
        if (!got.equals(due)) {
            Check.tell(what + " answered " + got + ", the model " + due);
        }
    }

    private static String answer(IntSupplier call) {
        try {
            return "" + call.getAsInt();
        } catch (RuntimeException e) {
            return e.getClass().getSimpleName();
        }
    }

    /** What undo restores. */
    private static final class Now {
        int[][] teeth = {{9, 9, 9, 9}, {9, 9, 9, 9, 9, 9}, new int[8], new int[9], {0, 1, 2, 3, 4, 5, 6, 5, 4, 3, 2, 1}};
        int[] turned = new int[5];
        boolean[] loose = new boolean[5];
        List<Integer> stops = new ArrayList<>();
        List<List<Integer>> scenes = new ArrayList<>();
        int crank;
        int forward;
        int setting = 4;
        int latest;
        boolean lifted;

        Now twin() {
            Now twin = new Now();
            for (int wheel = 0; wheel < 5; wheel++) {
                twin.teeth[wheel] = teeth[wheel].clone();
            }
            twin.turned = turned.clone();
            twin.loose = loose.clone();
            twin.stops = new ArrayList<>(stops);
            twin.scenes = new ArrayList<>(scenes);
            twin.crank = crank;
            twin.forward = forward;
            twin.setting = setting;
            twin.latest = latest;
            twin.lifted = lifted;
            return twin;
        }

        List<Integer> picture(int steps) {
            List<Integer> heights = new ArrayList<>();
            for (int wheel = 0; wheel < 5; wheel++) {
                int at = turned[wheel] + (loose[wheel] ? 0 : steps);
                heights.add(teeth[wheel][Math.floorMod(at, teeth[wheel].length)]);
            }
            return heights;
        }

        int fault(List<Integer> heights) {
            int traps = (heights.get(2) > 4 ? 1 : 0) + (heights.get(3) > 4 ? 1 : 0);
            int curtains = (heights.get(0) > 4 ? 1 : 0) + (heights.get(1) > 4 ? 1 : 0);
            if (traps > 0 && curtains < 2) {
                return 1;
            }
            return traps == 2 && heights.get(4) > setting ? 2 : 0;
        }

        boolean caught() {
            return stops.contains(Math.floorMod(crank, 60)) && !lifted;
        }

        int why(int direction) {
            int fault = fault(picture(direction));
            if (fault > 0) {
                return fault;
            }
            return caught() ? 3 : Math.abs(crank + direction) > 9999 ? 4 : 0;
        }

        void step(int direction) {
            for (int wheel = 0; wheel < 5; wheel++) {
                turned[wheel] += loose[wheel] ? 0 : direction;
            }
            crank += direction;
            forward += direction > 0 ? 1 : 0;
            lifted = false;
        }

        int round() {
            for (int steps = 1; ; steps++) {
                boolean whole = true;
                for (int wheel = 0; wheel < 5; wheel++) {
                    whole &= loose[wheel] || steps % teeth[wheel].length == 0;
                }
                if (whole) {
                    return steps;
                }
            }
        }
    }

    private static final class Model {
        private static final Pattern[] COMPLETE = new Pattern[4];
        static {
            String inside = "";
            for (int depth = 0; depth < 4; depth++) {
                inside = "(?:[+-](?:60|[1-5][0-9]|[1-9])|k[0-4]|l" + (depth == 0 ? "" : "|\\(" + inside + "\\)[2-9]") + ")+";
                COMPLETE[depth] = Pattern.compile(inside);
            }
        }

        Now now = new Now();
        Now snapshot;
        List<Now> saved = new ArrayList<>();
        String buffer = "";

        void need(boolean holds, RuntimeException otherwise) {
            if (!holds) {
                throw otherwise;
            }
        }

        void needWheel(int wheel) {
            need(wheel >= 0 && wheel < 5, new IndexOutOfBoundsException());
        }

        void needRange(int value, int least, int greatest) {
            need(value >= least && value <= greatest, new IllegalArgumentException());
        }

        void needTooth(int wheel, int tooth) {
            needWheel(wheel);
            need(tooth >= 0 && tooth < now.teeth[wheel].length, new IndexOutOfBoundsException());
        }

        void save() {
            saved.add(now.twin());
            if (saved.size() > 6) {
                saved.remove(0);
            }
        }

        /** Takes the new state on if its picture is allowed. */
        void become(Now then) {
            need(then.fault(then.picture(0)) == 0, new IllegalStateException());
            save();
            now = then;
        }

        int turn(int steps) {
            needRange(steps, -60, 60);
            need(steps != 0, new IllegalArgumentException());
            save();
            int made = 0;
            while (made < Math.abs(steps) && now.why(Integer.signum(steps)) == 0) {
                now.step(Integer.signum(steps));
                made++;
            }
            return made;
        }

        int lift() {
            save();
            int caught = now.caught() ? 1 : 0;
            now.lifted = true;
            return caught;
        }

        int place() {
            return Math.floorMod(now.crank, 60);
        }

        int stop(int place) {
            need(place >= 0 && place < 60, new IndexOutOfBoundsException());
            save();
            if (!now.stops.remove((Integer) place)) {
                now.stops.add(place);
            }
            return now.stops.size();
        }

        int clutch(int wheel) {
            needWheel(wheel);
            save();
            now.loose[wheel] ^= true;
            return now.loose[wheel] ? 0 : 1;
        }

        int hand(int wheel, int by) {
            needWheel(wheel);
            needRange(by, 1, 11);
            need(now.loose[wheel], new IllegalStateException());
            Now then = now.twin();
            then.turned[wheel] += by;
            become(then);
            return wheel(wheel, 1);
        }

        int file(int wheel, int tooth, int height) {
            needTooth(wheel, tooth);
            needRange(height, 0, 9);
            int before = now.teeth[wheel][tooth];
            Now then = now.twin();
            then.teeth[wheel][tooth] = height;
            become(then);
            return before;
        }

        int change(int wheel, int number) {
            needWheel(wheel);
            needRange(number, 2, 12);
            int before = now.teeth[wheel].length;
            int height = now.picture(0).get(wheel);
            Now then = now.twin();
            then.teeth[wheel] = new int[number];
            java.util.Arrays.fill(then.teeth[wheel], height);
            then.turned[wheel] = 0;
            become(then);
            return before;
        }

        int set(int height) {
            needRange(height, 0, 9);
            int before = now.setting;
            Now then = now.twin();
            then.setting = height;
            become(then);
            return before;
        }

        int remember() {
            need(now.scenes.size() < 6, new IllegalStateException());
            save();
            now.scenes.add(now.picture(0));
            return now.scenes.size() - 1;
        }

        void needScene(int scene) {
            need(scene >= 0 && scene < now.scenes.size(), new IndexOutOfBoundsException());
        }

        int forget(int scene) {
            needScene(scene);
            save();
            now.scenes.remove(scene);
            return now.scenes.size();
        }

        int append(int code) {
            needRange(code, 33, 126);
            need(buffer.length() < 60, new IllegalStateException());
            buffer += (char) code;
            return buffer.length();
        }

        int clearBuffer() {
            int length = buffer.length();
            buffer = "";
            return length;
        }

        boolean isComplete(String text) {
            return COMPLETE[3].matcher(text).matches();
        }

        /** Some work as a text begins with this, if one of these ends makes it complete. */
        boolean canBegin(String text) {
            for (String token : new String[] {"", "1", "2", "l"}) {
                for (String brackets : new String[] {"", ")2", ")2)2", ")2)2)2"}) {
                    if (isComplete(text + token + brackets)) {
                        return true;
                    }
                }
            }
            return false;
        }

        int firstError() {
            int right = 0;
            while (right < buffer.length() && canBegin(buffer.substring(0, right + 1))) {
                right++;
            }
            return right;
        }

        /** The text without its brackets. */
        String flat(String text) {
            int open = text.lastIndexOf('(');
            if (open < 0) {
                return text;
            }
            int close = text.indexOf(')', open);
            String inside = text.substring(open + 1, close).repeat(text.charAt(close + 1) - '0');
            return flat(text.substring(0, open) + inside + text.substring(close + 2));
        }

        int work() {
            need(isComplete(buffer), new IllegalArgumentException());
            save();
            String text = flat(buffer);
            buffer = "";
            int made = 0;
            now.latest = 0;
            for (String part : text.split("(?=[-+kl])")) {
                if (part.equals("l")) {
                    now.lifted = true;
                } else if (part.charAt(0) == 'k') {
                    now.loose[part.charAt(1) - '0'] ^= true;
                } else {
                    int steps = Integer.parseInt(part);
                    for (int step = 0; step < Math.abs(steps); step++) {
                        now.latest = made == 2000 ? 5 : now.why(Integer.signum(steps));
                        if (now.latest > 0) {
                            return made;
                        }
                        now.step(Integer.signum(steps));
                        made++;
                    }
                }
            }
            return made;
        }

        int keep() {
            snapshot = now.twin();
            return now.scenes.size();
        }

        int goBack() {
            need(snapshot != null, new IllegalStateException());
            save();
            now = snapshot.twin();
            return now.scenes.size();
        }

        int undo() {
            need(!saved.isEmpty(), new IllegalStateException());
            now = saved.remove(saved.size() - 1);
            return saved.size();
        }

        int wheel(int wheel, int what) {
            needWheel(wheel);
            needRange(what, 0, 6);
            int height = now.picture(0).get(wheel);
            int high = 0;
            for (int each : now.teeth[wheel]) {
                high += each > 4 ? 1 : 0;
            }
            int number = now.teeth[wheel].length;
            int top = Math.floorMod(now.turned[wheel], number);
            return new int[] {number, top, top, height, now.loose[wheel] ? 0 : 1, height / 5, high}[what];
        }

        int tooth(int wheel, int tooth) {
            needTooth(wheel, tooth);
            return now.teeth[wheel][tooth];
        }

        int scene(int scene, int what) {
            needScene(scene);
            needRange(what, 0, 7);
            List<Integer> heights = now.scenes.get(scene);
            if (what < 5) {
                return heights.get(what);
            }
            if (what == 5) {
                return heights.equals(now.picture(0)) ? 1 : 0;
            }
            if (what == 6) {
                return now.fault(heights) == 0 ? 1 : 0;
            }
            int round = now.round();
            for (int steps = 0; steps < round; steps++) {
                if (heights.equals(now.picture(steps))) {
                    return steps;
                }
            }
            return -1;
        }

        int count(int what) {
            needRange(what, 0, 12);
            int locked = 0;
            int out = 0;
            for (int wheel = 0; wheel < 5; wheel++) {
                locked += now.loose[wheel] ? 0 : 1;
                out += now.picture(0).get(wheel) / 5;
            }
            int back = now.forward - now.crank;
            return new int[] {now.crank, place(), now.caught() ? 1 : 0, now.forward, back, locked, now.stops.size(),
                now.scenes.size(), out, now.setting, now.latest, now.lifted ? 1 : 0, saved.size()}[what];
        }

        int why(int back) {
            needRange(back, 0, 1);
            return now.why(1 - 2 * back);
        }

        int round(int way) {
            needRange(way, 0, 1);
            return now.round();
        }

        int jamsIn(int back) {
            needRange(back, 0, 1);
            int round = now.round();
            for (int steps = 0; steps < round; steps++) {
                if (now.fault(now.picture((steps + 1) * (1 - 2 * back))) > 0) {
                    return steps;
                }
            }
            return -1;
        }

        int ahead(int steps, int wheel) {
            needWheel(wheel);
            needRange(steps, -9999, 9999);
            return now.picture(steps).get(wheel);
        }

        int frees(int back) {
            needRange(back, 0, 1);
            for (int wheel = 0; wheel < 5 && why(back) != 0; wheel++) {
                Now then = now.twin();
                then.loose[wheel] = true;
                if (then.why(1 - 2 * back) == 0) {
                    return wheel;
                }
            }
            return -1;
        }

        double allowedShare() {
            int round = now.round();
            int allowed = 0;
            for (int steps = 0; steps < round; steps++) {
                allowed += now.fault(now.picture(steps)) == 0 ? 1 : 0;
            }
            return allowed / (double) round;
        }

        float meanHeight() {
            return now.picture(0).stream().mapToInt(Integer::intValue).sum() / 5f;
        }

        long digest() {
            List<Long> values = new ArrayList<>();
            for (int what = 0; what < 13; what++) {
                values.add((long) count(what));
            }
            for (int wheel = 0; wheel < 5; wheel++) {
                for (int what = 0; what < 7; what++) {
                    values.add((long) wheel(wheel, what));
                }
                for (int height : now.teeth[wheel]) {
                    values.add((long) height);
                }
            }
            for (int place = 0; place < 60; place++) {
                values.add(now.stops.contains(place) ? 1L : 0L);
            }
            for (int scene = 0; scene < now.scenes.size(); scene++) {
                for (int what = 0; what < 8; what++) {
                    values.add((long) scene(scene, what));
                }
            }
            int[] looks = {why(0), why(1), round(0), round(1), jamsIn(0), jamsIn(1), frees(0), frees(1)};
            for (int look : looks) {
                values.add((long) look);
            }
            for (int wheel = 0; wheel < 5; wheel++) {
                values.add((long) ahead(7, wheel));
            }
            values.add(Double.doubleToLongBits(allowedShare()));
            values.add((long) Float.floatToIntBits(meanHeight()));
            values.add(snapshot == null ? 0L : 1L);
            values.add((long) buffer.length());
            for (char sign : buffer.toCharArray()) {
                values.add((long) sign);
            }
            long hash = 3847;
            for (long value : values) {
                hash = hash * 31 + value;
            }
            return hash;
        }
    }
}
