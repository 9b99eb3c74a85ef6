/** Promises 24 to 29: what would be. */
public final class ForesightTest {
    private static final Class<IllegalArgumentException> ARGUMENT = IllegalArgumentException.class;
    private static final Class<IndexOutOfBoundsException> INDEX = IndexOutOfBoundsException.class;

    public static void main(String[] args) {
        round();
        jamsIn();
        ahead();
        frees();
        freesNot();
        allowedShare();
        meanHeight();
        wrongInputs();
        Check.end();
    }

    private static void rounds(CrankTheatre x, int steps) {
        Check.equal("round step by step", x.round(0), steps);
        Check.equal("round by the teeth", x.round(1), steps);
    }

    private static void round() {
        CrankTheatre x = new CrankTheatre();
        rounds(x, 72);
        x.turn(5);
        rounds(x, 72);
        x.clutch(3);
        rounds(x, 24);
        x.clutch(4);
        x.clutch(2);
        rounds(x, 12);
        x.clutch(0);
        rounds(x, 6);
        x.clutch(1);
        rounds(x, 1);
        int[] teeth = {5, 7, 8, 9, 11};
        for (int wheel = 0; wheel < 5; wheel++) {
            x.change(wheel, teeth[wheel]);
            if (x.wheel(wheel, 4) == 0) {
                x.clutch(wheel);
            }
        }
        rounds(x, 27720);
        x.stop(5);
        rounds(x, 27720);
    }

    private static void jamsIn() {
        CrankTheatre x = new CrankTheatre();
        Check.equal("never", x.jamsIn(0), -1);
        x.file(2, 3, 5);
        x.file(0, 3, 4);
        Check.equal("two steps forward", x.jamsIn(0), 2);
        Check.equal("back at -5", x.jamsIn(1), 4);
        x.stop(0);
        Check.equal("stops aside", x.jamsIn(0), 2);
        x.clutch(2);
        Check.equal("never with the trap loose", x.jamsIn(0), -1);
        x.clutch(2);
        x.clutch(0);
        Check.equal("never with the curtain loose", x.jamsIn(1), -1);
        x.clutch(0);
        x.lift();
        x.turn(2);
        Check.equal("at once", x.jamsIn(0), 0);
        Check.equal("back from there", x.jamsIn(1), 6);
        jamsInNearTheBound();
        jamsInALongRound();
    }

    private static void jamsInNearTheBound() {
        CrankTheatre x = new CrankTheatre();
        Check.work(x, "(((+60)9)9)9");
        Check.work(x, "(((+60)9)9)9");
        Check.work(x, "(((+60)9)9)9");
        Check.work(x, "(((+60)9)9)9");
        Check.equal("1999 to the bound", Check.work(x, "(((+60)9)9)9"), 1999);
        Check.equal("by 4", x.count(10), 4);
        x.file(2, 0, 9);
        x.file(1, 0, 0);
        int top = x.wheel(2, 1);
        Check.equal("top", top, 9999 % 8);
        // 9999 + n is a multiple of 24 first for n = 9
        Check.equal("the bound aside", x.jamsIn(0), 8);
    }

    private static void jamsInALongRound() {
        CrankTheatre x = new CrankTheatre();
        int[] teeth = {5, 7, 8, 9, 11};
        for (int wheel = 0; wheel < 5; wheel++) {
            x.change(wheel, teeth[wheel]);
        }
        x.set(1);
        x.file(2, 7, 9);
        x.file(3, 8, 9);
        x.file(4, 10, 2);
        // All three are at their last tooth one step back, and 791 steps forward: 792 is the round of these three.
        Check.equal("one step back", x.jamsIn(1), 0);
        Check.equal("forward", x.jamsIn(0), 790);
        // With a curtain in at its tooth 1 alone, the trap meets it sooner: 31 is 7 of 8 and 1 of 5.
        x.file(0, 1, 0);
        Check.equal("sooner", x.jamsIn(0), 25);
    }

    private static void ahead() {
        CrankTheatre x = new CrankTheatre();
        Check.equal("now", x.ahead(0, 4), 0);
        Check.equal("5 forward", x.ahead(5, 4), 5);
        Check.equal("5 back", x.ahead(-5, 4), 5);
        Check.equal("far forward", x.ahead(9999, 4), 3);
        Check.equal("far back", x.ahead(-9999, 4), 3);
        x.turn(-1);
        Check.equal("from another tooth", x.ahead(-9999, 4), 4);
        Check.equal("from another tooth", x.ahead(1, 4), 0);
        x.clutch(4);
        Check.equal("loose", x.ahead(7, 4), 1);
        x.file(2, 2, 9);
        x.file(0, 2, 0);
        Check.equal("where it can not go", x.ahead(3, 2), 9);
        Check.equal("there, too", x.ahead(3, 0), 0);
    }

    private static void frees() {
        CrankTheatre x = new CrankTheatre();
        Check.equal("free now", x.frees(0), -1);
        x.file(2, 1, 9);
        x.file(0, 1, 0);
        Check.equal("the curtain", x.frees(0), 0);
        Check.equal("free back", x.frees(1), -1);
        x.file(1, 1, 0);
        Check.equal("both curtains in: the trap", x.frees(0), 2);
        x.clutch(2);
        Check.equal("free with the trap loose", x.frees(0), -1);
        x.clutch(2);
        x.file(3, 1, 9);
        Check.equal("nothing frees it", x.frees(0), -1);
        x.file(0, 1, 9);
        Check.equal("the other curtain", x.frees(0), 1);
        x.file(1, 1, 9);
        x.set(0);
        Check.equal("by the moon: a trap", x.frees(0), 2);
        x.file(2, 0, 9);
        Check.equal("the trap is out anyway", x.frees(0), 3);
        x.clutch(2);
        x.clutch(3);
        x.file(3, 0, 9);
        Check.equal("only locked ones: the moon", x.frees(0), 4);
        freesLockedOnesAlone();
    }

    /** A loose curtain would be out behind the step if it was locked; that is not what is asked. */
    private static void freesLockedOnesAlone() {
        CrankTheatre x = new CrankTheatre();
        x.file(0, 0, 0);
        x.file(2, 1, 9);
        x.clutch(0);
        Check.equal("jammed", x.why(0), 1);
        Check.equal("the trap", x.frees(0), 2);
        x.clutch(0);
        Check.equal("free with the curtain locked", x.why(0), 0);
    }

    private static void freesNot() {
        CrankTheatre x = new CrankTheatre();
        x.stop(0);
        Check.equal("caught", x.frees(0), -1);
        x.file(2, 1, 9);
        x.file(0, 1, 0);
        Check.equal("why", x.why(0), 1);
        Check.equal("jammed and caught", x.frees(0), -1);
        x.lift();
        Check.equal("lifted", x.frees(0), 0);
        Check.equal("nothing is changed", x.wheel(0, 4), 1);
    }

    private static void allowedShare() {
        CrankTheatre x = new CrankTheatre();
        Check.equalShare("all", x.allowedShare(), 1.0);
        x.file(2, 1, 9);
        Check.equalShare("all still", x.allowedShare(), 1.0);
        x.file(0, 1, 0);
        // The trap is at its tooth 1 in 9 of 72 pictures, the curtain in all of these.
        Check.equalShare("63 of 72", x.allowedShare(), 63.0 / 72);
        x.clutch(0);
        Check.equalShare("loose curtain", x.allowedShare(), 1.0);
        x.clutch(0);
        for (int wheel = 1; wheel < 5; wheel++) {
            x.clutch(wheel);
        }
        Check.equalShare("loose trap", x.allowedShare(), 1.0);
        x.hand(2, 1);
        Check.equalShare("3 of 4", x.allowedShare(), 0.75);
        x.clutch(0);
        Check.equalShare("the picture of now", x.allowedShare(), 1.0);
    }

    private static void meanHeight() {
        CrankTheatre x = new CrankTheatre();
        Check.equalShare("18 of 5", x.meanHeight(), 18f / 5);
        x.turn(4);
        Check.equalShare("22 of 5", x.meanHeight(), 22f / 5);
        x.file(2, 4, 9);
        x.file(3, 4, 9);
        x.set(9);
        x.file(4, 4, 9);
        Check.equalShare("greatest", x.meanHeight(), 9f);
        CrankTheatre y = new CrankTheatre();
        y.file(0, 0, 0);
        y.file(1, 0, 0);
        Check.equalShare("least", y.meanHeight(), 0f);
    }

    private static void wrongInputs() {
        CrankTheatre x = new CrankTheatre();
        for (int far : new int[] {-1, 2, Integer.MAX_VALUE, Integer.MIN_VALUE}) {
            Check.refuses("round " + far, x, ARGUMENT, () -> x.round(far));
            Check.refuses("jamsIn " + far, x, ARGUMENT, () -> x.jamsIn(far));
            Check.refuses("frees " + far, x, ARGUMENT, () -> x.frees(far));
        }
        for (int far : new int[] {-10000, 10000, Integer.MAX_VALUE, Integer.MIN_VALUE}) {
            Check.refuses("ahead " + far, x, ARGUMENT, () -> x.ahead(far, 0));
            Check.refuses("ahead of a wheel " + far, x, INDEX, () -> x.ahead(0, far));
            Check.refuses("index first", x, INDEX, () -> x.ahead(far, 5));
        }
        Check.refuses("wheel 5", x, INDEX, () -> x.ahead(0, 5));
        Check.refuses("wheel -1", x, INDEX, () -> x.ahead(0, -1));
    }
}
