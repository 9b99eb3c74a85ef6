/** Promise 30: the digest, told again from the answers of the other calls and the Java library's bits. */
public final class DigestTest {
    public static void main(String[] args) {
        CrankTheatre x = new CrankTheatre();
        Digests.check("new", x, new boolean[60], false, "");
        played();
        farShares();
        nothingElseCounts();
        Check.end();
    }

    private static void played() {
        CrankTheatre x = new CrankTheatre();
        boolean[] stops = new boolean[60];
        x.stop(0);
        x.stop(59);
        stops[0] = true;
        stops[59] = true;
        x.remember();
        x.lift();
        x.turn(-1);
        x.remember();
        x.file(2, 3, 8);
        x.file(0, 1, 2);
        x.keep();
        Check.type(x, "+~!(");
        Digests.check("played", x, stops, true, "+~!(");
        x.clearBuffer();
        Digests.check("cleared", x, stops, true, "");
    }

    /** Shares and means of many sizes, so that each bit of theirs is told. */
    private static void farShares() {
        for (int last = 1; last < 11; last++) {
            Digests.check("shares " + last, filed(last), new boolean[60], false, "");
        }
        CrankTheatre x = filed(10);
        x.file(0, 0, 0);
        x.file(1, 0, 0);
        x.file(4, 0, 0);
        Digests.check("no height", x, new boolean[60], false, "");
        x.file(4, 0, 1);
        Digests.check("a height of 1 in 5", x, new boolean[60], false, "");
    }

    private static CrankTheatre filed(int last) {
        CrankTheatre x = new CrankTheatre();
        x.change(2, 11);
        x.change(3, 7);
        for (int tooth = 1; tooth <= last; tooth++) {
            x.file(2, tooth, 9);
            x.file(0, tooth % 3 + 1, tooth % 5);
            x.file(4, 0, tooth % 10);
        }
        return x;
    }

    private static void nothingElseCounts() {
        CrankTheatre x = new CrankTheatre();
        CrankTheatre y = new CrankTheatre();
        x.append('l');
        x.clearBuffer();
        x.turn(1);
        x.undo();
        Check.equal("the same state, the same digest", x.digest(), y.digest());
        Check.equal("and again", x.digest(), y.digest());
    }
}
