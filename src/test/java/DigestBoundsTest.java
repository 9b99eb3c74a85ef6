import java.util.ArrayList;
import java.util.List;

/** Promise 30, and "looks; nothing is changed" of promises 14 and 19 to 30: a method for each sentence. */
public final class DigestBoundsTest {
    private static final int[] NEW_THEATRE = {
        0, 0, 0, 0, 0, 5, 0, 0, 2, 4, 0, 0, 0,
        4, 0, 0, 9, 1, 1, 4, 9, 9, 9, 9,
        6, 0, 0, 9, 1, 1, 6, 9, 9, 9, 9, 9, 9,
        8, 0, 0, 0, 1, 0, 0, 0, 0, 0, 0, 0, 0, 0, 0,
        9, 0, 0, 0, 1, 0, 0, 0, 0, 0, 0, 0, 0, 0, 0, 0,
        12, 0, 0, 0, 1, 0, 3, 0, 1, 2, 3, 4, 5, 6, 5, 4, 3, 2, 1,
    };
    private static final int[] NEW_THEATRE_WOULD_BE = {0, 0, 72, 72, -1, -1, -1, -1, 9, 9, 0, 0, 5};

    public static void main(String[] args) {
        digestOfANewTheatreByItsNumbers();
        digestOfNoSceneToSix();
        digestOfNoStopToSixty();
        digestOfTheBufferFromEmptyToFull();
        digestWithAndWithoutASnapshot();
        digestOfEachShare();
        digestOfEachMean();
        digestOfNumbersBelowZero();
        looksChangeNothing();
        looksAreTheSameWhenAskedAgain();
        Check.end();
    }

    private static long mix(long hash, int... values) {
        long mixed = hash;
        for (int value : values) {
            mixed = 31 * mixed + value;
        }
        return mixed;
    }

    private static long bits(long hash, double share, float mean) {
        return 31 * (31 * hash + Double.doubleToLongBits(share)) + Float.floatToIntBits(mean);
    }

    private static void digestOfANewTheatreByItsNumbers() {
        long hash = mix(3847, NEW_THEATRE);
        hash = mix(hash, new int[60]);
        hash = mix(hash, NEW_THEATRE_WOULD_BE);
        hash = bits(hash, 1.0, 3.6f);
        Check.equal("digest of a new theatre", new CrankTheatre().digest(), mix(hash, 0, 0));
    }

    /** The digest, from the answers of the calls that it names; stops are told by the test. */
    private static long due(CrankTheatre x, boolean[] stops, boolean kept, String buffer) {
        List<Integer> values = new ArrayList<>();
        for (int what = 0; what <= 12; what++) {
            values.add(x.count(what));
        }
        for (int wheel = 0; wheel < 5; wheel++) {
            for (int what = 0; what <= 6; what++) {
                values.add(x.wheel(wheel, what));
            }
            for (int tooth = 0; tooth < x.wheel(wheel, 0); tooth++) {
                values.add(x.tooth(wheel, tooth));
            }
        }
        for (boolean stop : stops) {
            values.add(stop ? 1 : 0);
        }
        for (int scene = 0; scene < x.count(7); scene++) {
            for (int what = 0; what <= 7; what++) {
                values.add(x.scene(scene, what));
            }
        }
        values.addAll(List.of(x.why(0), x.why(1), x.round(0), x.round(1), x.jamsIn(0), x.jamsIn(1)));
        values.addAll(List.of(x.frees(0), x.frees(1)));
        for (int wheel = 0; wheel < 5; wheel++) {
            values.add(x.ahead(7, wheel));
        }
        long hash = 3847;
        for (int value : values) {
            hash = mix(hash, value);
        }
        hash = mix(bits(hash, x.allowedShare(), x.meanHeight()), kept ? 1 : 0, buffer.length());
        return mix(hash, buffer.chars().toArray());
    }

    private static void whole(String what, CrankTheatre x, boolean[] stops, boolean kept, String buffer) {
        Check.equal("digest, " + what, x.digest(), due(x, stops, kept, buffer));
    }

    private static void digestOfNoSceneToSix() {
        for (int scenes = 0; scenes <= 6; scenes++) {
            CrankTheatre x = new CrankTheatre();
            for (int scene = 0; scene < scenes; scene++) {
                x.remember();
                x.turn(1);
            }
            whole(scenes + " scenes", x, new boolean[60], false, "");
            if (scenes > 2) {
                x.forget(2);
                whole("one is forgotten", x, new boolean[60], false, "");
            }
        }
    }

    private static void digestOfNoStopToSixty() {
        for (int stops = 0; stops <= 60; stops++) {
            CrankTheatre x = new CrankTheatre();
            boolean[] due = new boolean[60];
            for (int stop = 0; stop < stops; stop++) {
                x.stop(59 - stop);
                due[59 - stop] = true;
            }
            whole(stops + " stops", x, due, false, "");
            if (stops > 0) {
                x.stop(59);
                due[59] = false;
                whole("the last place is none", x, due, false, "");
            }
        }
    }

    private static void digestOfTheBufferFromEmptyToFull() {
        for (int length = 0; length <= 60; length++) {
            CrankTheatre x = new CrankTheatre();
            StringBuilder buffer = new StringBuilder();
            for (int at = 0; at < length; at++) {
                x.append(126 - at);
                buffer.append((char) (126 - at));
            }
            whole(length + " characters", x, new boolean[60], false, buffer.toString());
            x.clearBuffer();
            whole("cleared", x, new boolean[60], false, "");
        }
        CrankTheatre x = new CrankTheatre();
        x.append(33);
        whole("the least code, alone", x, new boolean[60], false, "!");
        CrankTheatre y = new CrankTheatre();
        Check.type(y, "k1");
        y.work();
        whole("worked off", y, new boolean[60], false, "");
    }

    private static void digestWithAndWithoutASnapshot() {
        CrankTheatre x = new CrankTheatre();
        x.turn(1);
        long before = x.digest();
        x.keep();
        whole("a snapshot", x, new boolean[60], true, "");
        Check.equal("it tells by 31", x.digest() - before, 31);
        x.goBack();
        whole("and gone back", x, new boolean[60], true, "");
        x.undo();
        x.undo();
        whole("and undone", x, new boolean[60], true, "");
    }

    /** Shares of many sizes: from 1 of 12 to all of each round of one wheel. */
    private static void digestOfEachShare() {
        for (int teeth = 2; teeth <= 12; teeth++) {
            for (int high = 0; high < teeth; high++) {
                CrankTheatre x = new CrankTheatre();
                for (int wheel = 0; wheel < 4; wheel++) {
                    x.clutch(wheel);
                }
                x.change(4, teeth);
                x.file(2, 0, 9);
                x.file(3, 0, 9);
                for (int tooth = 1; tooth <= high; tooth++) {
                    x.file(4, tooth, 9);
                }
                Check.equalShare("share", x.allowedShare(), (double) (teeth - high) / teeth);
                whole("share of " + teeth, x, new boolean[60], false, "");
            }
        }
    }

    private static void digestOfEachMean() {
        for (int sum = 0; sum <= 45; sum++) {
            CrankTheatre x = new CrankTheatre();
            x.set(9);
            for (int wheel = 0; wheel < 5; wheel++) {
                x.file(wheel, 0, Math.max(0, Math.min(9, sum - 9 * wheel)));
            }
            Check.equalShare("mean", x.meanHeight(), sum / 5f);
            whole("mean of " + sum, x, new boolean[60], false, "");
        }
    }

    private static void digestOfNumbersBelowZero() {
        CrankTheatre x = Stage.at(-9999);
        whole("at -9999", x, new boolean[60], false, "");
        CrankTheatre y = Stage.at(9999);
        whole("at 9999", y, new boolean[60], false, "");
    }

    private static void looksOf(String what, Check.Maker maker) {
        for (int wheel = 0; wheel < 5; wheel++) {
            int number = wheel;
            for (int of = 0; of <= 6; of++) {
                int told = of;
                Check.onlyLooks(what + "wheel", maker, x -> x.wheel(number, told));
            }
            Check.onlyLooks(what + "tooth", maker, x -> x.tooth(number, 1));
            Check.onlyLooks(what + "ahead", maker, x -> x.ahead(-9999, number));
            Check.onlyLooks(what + "ahead", maker, x -> x.ahead(9999, number));
        }
        for (int of = 0; of <= 12; of++) {
            int told = of;
            Check.onlyLooks(what + "count", maker, x -> x.count(told));
        }
        for (int either = 0; either < 2; either++) {
            int way = either;
            Check.onlyLooks(what + "why", maker, x -> x.why(way));
            Check.onlyLooks(what + "round", maker, x -> x.round(way));
            Check.onlyLooks(what + "jamsIn", maker, x -> x.jamsIn(way));
            Check.onlyLooks(what + "frees", maker, x -> x.frees(way));
        }
        Check.onlyLooks(what + "allowedShare", maker, x -> (long) x.allowedShare());
        Check.onlyLooks(what + "meanHeight", maker, x -> (long) x.meanHeight());
        Check.onlyLooks(what + "digest", maker, CrankTheatre::digest);
        Check.onlyLooks(what + "firstError", maker, CrankTheatre::firstError);
    }

    private static void looksChangeNothing() {
        looksOf("new: ", CrankTheatre::new);
        looksOf("played: ", Stage::played);
        looksOf("full: ", Stage::full);
        looksOf("tight: ", Stage::tight);
        looksOf("at the bound: ", () -> Stage.at(9999));
        for (int of = 0; of <= 7; of++) {
            int told = of;
            Check.onlyLooks("scene", Stage::played, x -> x.scene(0, told));
            Check.onlyLooks("scene", Stage::full, x -> x.scene(5, told));
        }
    }

    private static void looksAreTheSameWhenAskedAgain() {
        CrankTheatre x = Stage.played();
        long digest = x.digest();
        for (int times = 0; times < 5; times++) {
            Check.equal("round", x.round(0), x.round(1));
            Check.equal("frees", x.frees(0), x.frees(0));
            Check.equal("jamsIn", x.jamsIn(1), x.jamsIn(1));
            Check.equal("scene", x.scene(0, 7), x.scene(0, 7));
            Check.equal("digest", x.digest(), digest);
        }
    }
}
