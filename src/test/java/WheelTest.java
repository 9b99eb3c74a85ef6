/** Promises 5 to 9, 19 and 20: what is done to wheels, and what is told of them. */
public final class WheelTest {
    private static final Class<IllegalArgumentException> ARGUMENT = IllegalArgumentException.class;
    private static final Class<IndexOutOfBoundsException> INDEX = IndexOutOfBoundsException.class;
    private static final Class<IllegalStateException> STATE = IllegalStateException.class;
    private static final int[] FAR = {-1, Integer.MAX_VALUE, Integer.MIN_VALUE};

    public static void main(String[] args) {
        clutch();
        hand();
        handIntoAPicture();
        file();
        change();
        set();
        wheel();
        topsToldTwice();
        tooth();
        wrongInputs();
        orderOfExceptions();
        Check.end();
    }

    private static void clutch() {
        CrankTheatre x = new CrankTheatre();
        Check.equal("loose", x.clutch(4), 0);
        Check.equal("told", x.wheel(4, 4), 0);
        x.turn(5);
        Check.equal("stays", x.wheel(4, 1), 0);
        Check.equal("locked again", x.clutch(4), 1);
        x.turn(5);
        Check.equal("turns", x.wheel(4, 1), 5);
        Check.equal("others all the while", x.wheel(3, 1), 1);
        Check.equal("saved", x.count(12), 4);
    }

    private static void hand() {
        CrankTheatre x = new CrankTheatre();
        x.clutch(0);
        Check.equal("11 of 4", x.hand(0, 11), 3);
        Check.equal("one more", x.hand(0, 1), 0);
        x.clutch(4);
        Check.equal("11 of 12", x.hand(4, 11), 11);
        Check.equal("height", x.wheel(4, 3), 1);
        Check.equal("crank unmoved", x.count(0), 0);
        Check.equal("saved", x.count(12), 5);
    }

    private static void handIntoAPicture() {
        CrankTheatre x = new CrankTheatre();
        x.file(1, 1, 4);
        x.file(2, 0, 5);
        x.clutch(1);
        Check.refuses("hand a curtain in", x, STATE, () -> x.hand(1, 1));
        Check.refuses("hand a curtain in, round", x, STATE, () -> x.hand(1, 7));
        Check.equal("over it in one go", x.hand(1, 2), 2);
        x.file(3, 0, 9);
        x.clutch(4);
        Check.refuses("moon to 5", x, STATE, () -> x.hand(4, 5));
        Check.equal("moon to 4", x.hand(4, 4), 4);
        Check.refuses("from 4 to 5", x, STATE, () -> x.hand(4, 1));
        Check.equal("from 4 to 4", x.hand(4, 4), 8);
        Check.refuses("a locked wheel", x, STATE, () -> x.hand(0, 1));
        handBehindATurn();
    }

    /** The picture that counts is that behind the latest call, also if no look came between. */
    private static void handBehindATurn() {
        CrankTheatre x = new CrankTheatre();
        x.file(2, 1, 5);
        x.file(1, 2, 0);
        x.turn(1);
        x.clutch(1);
        boolean refused = false;
        try {
            x.hand(1, 1);
        } catch (IllegalStateException e) {
            refused = true;
        }
        Check.equal("refused", refused ? 1 : 0, 1);
        Check.equal("top", x.wheel(1, 1), 1);
    }

    private static void file() {
        CrankTheatre x = new CrankTheatre();
        Check.equal("height before", x.file(4, 11, 9), 1);
        Check.equal("height behind", x.tooth(4, 11), 9);
        Check.equal("again", x.file(4, 11, 0), 9);
        Check.equal("trap out with curtains out", x.file(2, 0, 5), 0);
        Check.refuses("curtain in", x, STATE, () -> x.file(0, 0, 4));
        Check.equal("curtain at 5", x.file(0, 0, 5), 9);
        Check.equal("not at the top", x.file(0, 1, 4), 9);
        Check.equal("the other trap, too", x.file(3, 0, 5), 0);
        Check.refuses("the other curtain in", x, STATE, () -> x.file(1, 0, 4));
        Check.equal("the first trap in", x.file(2, 0, 4), 5);
        Check.refuses("the other trap is out still", x, STATE, () -> x.file(1, 0, 4));
        Check.equal("in again", x.file(3, 0, 0), 5);
        x.file(2, 0, 5);
        x.file(4, 0, 5);
        Check.refuses("both traps under a high moon", x, STATE, () -> x.file(3, 0, 5));
        Check.equal("trap at 4", x.file(3, 0, 4), 0);
        x.file(4, 0, 4);
        Check.equal("both traps under the moon at 4", x.file(3, 0, 5), 4);
        Check.refuses("moon to 5", x, STATE, () -> x.file(4, 0, 5));
        Check.equal("saved", x.count(12), 6);
    }

    private static void change() {
        CrankTheatre x = new CrankTheatre();
        x.turn(3);
        Check.equal("had 12", x.change(4, 2), 12);
        Check.equal("teeth", x.wheel(4, 0), 2);
        Check.equal("top", x.wheel(4, 1), 0);
        Check.equal("top by deeds", x.wheel(4, 2), 0);
        Check.equal("tooth 0", x.tooth(4, 0), 3);
        Check.equal("tooth 1", x.tooth(4, 1), 3);
        Check.refuses("tooth 2", x, INDEX, () -> x.tooth(4, 2));
        Check.equal("had 2", x.change(4, 12), 2);
        for (int tooth = 0; tooth < 12; tooth++) {
            Check.equal("all at 3: " + tooth, x.tooth(4, tooth), 3);
        }
        Check.equal("same number", x.change(0, 4), 4);
        Check.equal("top 0", x.wheel(0, 1), 0);
        x.turn(5);
        Check.equal("top", x.wheel(0, 1), 1);
        Check.equal("locked still", x.wheel(0, 4), 1);
        Check.equal("saved", x.count(12), 5);
    }

    private static void set() {
        CrankTheatre x = new CrankTheatre();
        Check.equal("first setting", x.set(0), 4);
        Check.equal("then", x.set(9), 0);
        x.file(2, 0, 9);
        x.file(3, 0, 9);
        x.file(4, 0, 9);
        Check.refuses("below the moon", x, STATE, () -> x.set(8));
        x.file(3, 0, 4);
        Check.equal("one trap in", x.set(0), 9);
        Check.equal("told", x.count(9), 0);
        x.file(4, 0, 0);
        x.file(3, 0, 5);
        Check.equal("moon not above 0", x.set(0), 0);
    }

    private static void wheel() {
        CrankTheatre x = new CrankTheatre();
        x.file(3, 8, 5);
        x.file(3, 7, 9);
        x.file(3, 6, 4);
        Check.equal("high teeth", x.wheel(3, 6), 2);
        Check.equal("high teeth of the moon", x.wheel(4, 6), 3);
        Check.equal("moon not out at 4", outOfMoonAt(4), 0);
        Check.equal("moon out at 5", outOfMoonAt(5), 1);
        x.change(4, 5);
        Check.equal("high teeth behind a change", x.wheel(4, 6), 0);
        x.change(1, 3);
        Check.equal("no teeth beyond", x.wheel(1, 6), 3);
        Check.equal("height", x.wheel(1, 3), 9);
        Check.equal("height of the moon at its tooth 11", heightOfMoonAt(-1), 1);
        Check.equal("height of the moon at its tooth 7", heightOfMoonAt(7), 5);
    }

    private static int heightOfMoonAt(int steps) {
        CrankTheatre x = new CrankTheatre();
        x.turn(steps);
        return x.wheel(4, 3);
    }

    private static int outOfMoonAt(int steps) {
        CrankTheatre x = new CrankTheatre();
        x.turn(steps);
        return x.wheel(4, 5);
    }

    private static void topsToldTwice() {
        CrankTheatre x = new CrankTheatre();
        x.turn(-7);
        both(x, 4, 5);
        x.clutch(4);
        x.turn(3);
        x.hand(4, 11);
        both(x, 4, 4);
        x.clutch(4);
        x.turn(-60);
        x.turn(-13);
        both(x, 4, 3);
        x.change(4, 7);
        both(x, 4, 0);
        x.turn(-1);
        both(x, 4, 6);
        x.undo();
        x.undo();
        both(x, 4, 3);
    }

    private static void both(CrankTheatre x, int wheel, int top) {
        Check.equal("top", x.wheel(wheel, 1), top);
        Check.equal("top by deeds", x.wheel(wheel, 2), top);
    }

    private static void tooth() {
        CrankTheatre x = new CrankTheatre();
        x.turn(5);
        Check.equal("the moon's tooth 6", x.tooth(4, 6), 6);
        Check.equal("a curtain's last", x.tooth(0, 3), 9);
        Check.refuses("beyond", x, INDEX, () -> x.tooth(0, 4));
        Check.refuses("below", x, INDEX, () -> x.tooth(4, -1));
        Check.refuses("wheel beyond", x, INDEX, () -> x.tooth(5, 0));
        Check.refuses("wheel below", x, INDEX, () -> x.tooth(-1, 0));
        Check.refuses("far", x, INDEX, () -> x.tooth(Integer.MAX_VALUE, Integer.MAX_VALUE));
    }

    private static void wrongInputs() {
        CrankTheatre x = new CrankTheatre();
        x.turn(2);
        x.clutch(1);
        for (int far : FAR) {
            Check.refuses("clutch", x, INDEX, () -> x.clutch(far));
            Check.refuses("hand", x, INDEX, () -> x.hand(far, 1));
            Check.refuses("hand by", x, ARGUMENT, () -> x.hand(1, far));
            Check.refuses("file wheel", x, INDEX, () -> x.file(far, 0, 0));
            Check.refuses("file tooth", x, INDEX, () -> x.file(0, far, 0));
            Check.refuses("file height", x, ARGUMENT, () -> x.file(0, 0, far));
            Check.refuses("change wheel", x, INDEX, () -> x.change(far, 2));
            Check.refuses("change teeth", x, ARGUMENT, () -> x.change(0, far));
            Check.refuses("set", x, ARGUMENT, () -> x.set(far));
            Check.refuses("wheel", x, INDEX, () -> x.wheel(far, 0));
            Check.refuses("wheel what", x, ARGUMENT, () -> x.wheel(0, far));
        }
        Check.refuses("clutch 5", x, INDEX, () -> x.clutch(5));
        Check.refuses("hand 5", x, INDEX, () -> x.hand(5, 1));
        Check.refuses("hand by 0", x, ARGUMENT, () -> x.hand(1, 0));
        Check.refuses("hand by 12", x, ARGUMENT, () -> x.hand(1, 12));
        Check.refuses("file 5", x, INDEX, () -> x.file(5, 0, 0));
        Check.refuses("file tooth 4", x, INDEX, () -> x.file(0, 4, 0));
        Check.refuses("file height 10", x, ARGUMENT, () -> x.file(0, 0, 10));
        Check.refuses("change 5", x, INDEX, () -> x.change(5, 2));
        Check.refuses("change to 1", x, ARGUMENT, () -> x.change(0, 1));
        Check.refuses("change to 13", x, ARGUMENT, () -> x.change(0, 13));
        Check.refuses("set 10", x, ARGUMENT, () -> x.set(10));
        Check.refuses("wheel 5", x, INDEX, () -> x.wheel(5, 0));
        Check.refuses("wheel what 7", x, ARGUMENT, () -> x.wheel(0, 7));
    }

    private static void orderOfExceptions() {
        CrankTheatre x = new CrankTheatre();
        x.file(2, 0, 9);
        Check.refuses("hand: index first", x, INDEX, () -> x.hand(5, 12));
        Check.refuses("hand: argument before state", x, ARGUMENT, () -> x.hand(0, 12));
        Check.refuses("file: index first", x, INDEX, () -> x.file(0, 4, 10));
        Check.refuses("change: index first", x, INDEX, () -> x.change(5, 13));
        Check.refuses("wheel: index first", x, INDEX, () -> x.wheel(5, 7));
    }
}
