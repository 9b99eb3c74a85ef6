import java.util.ArrayList;
import java.util.List;

/** The digest, told again from the answers of the calls that the document names in it, and the Java library's bits. */
final class Digests {
    private Digests() {
    }

    static long mix(long hash, int... values) {
        long mixed = hash;
        for (int value : values) {
            mixed = 31 * mixed + value;
        }
        return mixed;
    }

    static long bits(long hash, double share, float mean) {
        return 31 * (31 * hash + Double.doubleToLongBits(share)) + Float.floatToIntBits(mean);
    }

    /** What no call tells, stops and a snapshot and the buffer, is told by the test. */
    private static long due(CrankTheatre x, boolean[] stops, boolean kept, String buffer) {
        List<Integer> values = new ArrayList<>();
        for (int what = 0; what <= 12; what++) {
            values.add(x.count(what));
        }
        for (int wheel = 0; wheel < 5; wheel++) {
            for (int what = 0; what <= 6; what++) {
                values.add(x.wheel(wheel, what));
            }
            for (int tooth = 0; tooth < x.wheel(wheel, 0); tooth++) {
                values.add(x.tooth(wheel, tooth));
            }
        }
        for (boolean stop : stops) {
            values.add(stop ? 1 : 0);
        }
        for (int scene = 0; scene < x.count(7); scene++) {
            for (int what = 0; what <= 7; what++) {
                values.add(x.scene(scene, what));
            }
        }
        values.addAll(List.of(x.why(0), x.why(1), x.round(0), x.round(1), x.jamsIn(0), x.jamsIn(1)));
        values.addAll(List.of(x.frees(0), x.frees(1)));
        for (int wheel = 0; wheel < 5; wheel++) {
            values.add(x.ahead(7, wheel));
        }
        long hash = 3847;
        for (int value : values) {
            hash = mix(hash, value);
        }
        hash = mix(bits(hash, x.allowedShare(), x.meanHeight()), kept ? 1 : 0, buffer.length());
        return mix(hash, buffer.chars().toArray());
    }

    static void check(String what, CrankTheatre x, boolean[] stops, boolean kept, String buffer) {
        Check.equal("digest, " + what, x.digest(), due(x, stops, kept, buffer));
    }
}
