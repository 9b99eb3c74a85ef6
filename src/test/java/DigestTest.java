import java.util.ArrayList;
import java.util.List;

/** Promise 30: the digest, told again from the answers of the other calls and the Java library's bits. */
public final class DigestTest {
    public static void main(String[] args) {
        CrankTheatre x = new CrankTheatre();
        whole("new", x, new boolean[60], false, "");
        played();
        farShares();
        nothingElseCounts();
        Check.end();
    }

    private static void whole(String what, CrankTheatre x, boolean[] stops, boolean kept, String buffer) {
        List<Long> values = new ArrayList<>();
        for (int number = 0; number <= 12; number++) {
            values.add((long) x.count(number));
        }
        for (int wheel = 0; wheel < 5; wheel++) {
            for (int number = 0; number <= 6; number++) {
                values.add((long) x.wheel(wheel, number));
            }
            for (int tooth = 0; tooth < x.wheel(wheel, 0); tooth++) {
                values.add((long) x.tooth(wheel, tooth));
            }
        }
        for (boolean stop : stops) {
            values.add(stop ? 1L : 0L);
        }
        for (int scene = 0; scene < x.count(7); scene++) {
            for (int number = 0; number <= 7; number++) {
                values.add((long) x.scene(scene, number));
            }
        }
        int[] looks = {x.why(0), x.why(1), x.round(0), x.round(1), x.jamsIn(0), x.jamsIn(1), x.frees(0), x.frees(1),
            x.ahead(7, 0), x.ahead(7, 1), x.ahead(7, 2), x.ahead(7, 3), x.ahead(7, 4)};
        for (int look : looks) {
            values.add((long) look);
        }
        values.add(Double.doubleToLongBits(x.allowedShare()));
        values.add((long) Float.floatToIntBits(x.meanHeight()));
        values.add(kept ? 1L : 0L);
        values.add((long) buffer.length());
        for (char sign : buffer.toCharArray()) {
            values.add((long) sign);
        }
        long hash = 3847;
        for (long value : values) {
            hash = 31 * hash + value;
        }
        Check.equal("digest, " + what, x.digest(), hash);
    }

    private static void played() {
        CrankTheatre x = new CrankTheatre();
        boolean[] stops = new boolean[60];
        x.stop(0);
        x.stop(59);
        stops[0] = true;
        stops[59] = true;
        x.remember();
        x.lift();
        x.turn(-1);
        x.remember();
        x.file(2, 3, 8);
        x.file(0, 1, 2);
        x.keep();
        Check.type(x, "+~!(");
        whole("played", x, stops, true, "+~!(");
        x.clearBuffer();
        whole("cleared", x, stops, true, "");
    }

    /** Shares and means of many sizes, so that each bit of theirs is told. */
    private static void farShares() {
        for (int last = 1; last < 11; last++) {
            whole("shares " + last, filed(last), new boolean[60], false, "");
        }
        CrankTheatre x = filed(10);
        x.file(0, 0, 0);
        x.file(1, 0, 0);
        x.file(4, 0, 0);
        whole("no height", x, new boolean[60], false, "");
        x.file(4, 0, 1);
        whole("a height of 1 in 5", x, new boolean[60], false, "");
    }

    private static CrankTheatre filed(int last) {
        CrankTheatre x = new CrankTheatre();
        x.change(2, 11);
        x.change(3, 7);
        for (int tooth = 1; tooth <= last; tooth++) {
            x.file(2, tooth, 9);
            x.file(0, tooth % 3 + 1, tooth % 5);
            x.file(4, 0, tooth % 10);
        }
        return x;
    }

    private static void nothingElseCounts() {
        CrankTheatre x = new CrankTheatre();
        CrankTheatre y = new CrankTheatre();
        x.append('l');
        x.clearBuffer();
        x.turn(1);
        x.undo();
        Check.equal("the same state, the same digest", x.digest(), y.digest());
        Check.equal("and again", x.digest(), y.digest());
    }
}
