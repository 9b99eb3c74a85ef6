/** Promises 24 to 29: a method for each sentence that names a bound. */
public final class ForesightBoundsTest {
    public static void main(String[] args) {
        roundWithoutLockedWheels();
        roundOfOneWheelOf2To12Teeth();
        roundOfTwoWheels();
        roundOfFiveWheels();
        roundWhetherStepsCanBeMadeOrNot();
        roundAwayFromTheToothZero();
        jamsInFrom0ToOneLessThanTheRound();
        jamsInTheLongestRound();
        jamsNever();
        jamsByEitherReason();
        jamsStopsAside();
        jamsBoundsOfTheCountAside();
        aheadFromMinus9999To9999();
        aheadOfNoStepIsNow();
        aheadWhetherStepsCanBeMadeOrNot();
        aheadOfALooseWheel();
        freesEachWheel();
        freesTheLowestOne();
        freesNoneIfTheStepCanBeMade();
        freesNoneIfOneIsNotEnough();
        freesNoneIfCaughtOrAtTheBound();
        freesByTheSettingAt();
        allowedShareOfOnePicture();
        allowedShareFromOneToAll();
        allowedShareOfTheLongestRound();
        meanHeightOfEachSum();
        Check.end();
    }

    private static void rounds(String what, CrankTheatre x, int steps) {
        Check.equal("step by step, " + what, x.round(0), steps);
        Check.equal("by the teeth, " + what, x.round(1), steps);
    }

    /** All wheels are loose but these. */
    private static CrankTheatre locked(int... wheels) {
        CrankTheatre x = new CrankTheatre();
        for (int wheel = 0; wheel < 5; wheel++) {
            x.clutch(wheel);
        }
        for (int wheel : wheels) {
            x.clutch(wheel);
        }
        return x;
    }

    private static void roundWithoutLockedWheels() {
        CrankTheatre x = locked();
        rounds("none locked", x, 1);
        x.turn(7);
        x.hand(3, 5);
        rounds("none locked, turned by hand", x, 1);
    }

    private static void roundOfOneWheelOf2To12Teeth() {
        for (int wheel = 0; wheel < 5; wheel++) {
            CrankTheatre x = locked(wheel);
            for (int teeth = 2; teeth <= 12; teeth++) {
                x.change(wheel, teeth);
                rounds("one wheel", x, teeth);
                x.turn(teeth - 1);
                rounds("one wheel at its last tooth", x, teeth);
            }
        }
    }

    private static int leastMultiple(int one, int other) {
        int multiple = one;
        while (multiple % other != 0) {
            multiple += one;
        }
        return multiple;
    }

    private static void roundOfTwoWheels() {
        for (int one = 2; one <= 12; one++) {
            for (int other = 2; other <= 12; other++) {
                CrankTheatre x = locked(1, 3);
                x.change(1, one);
                x.change(3, other);
                rounds(one + " and " + other, x, leastMultiple(one, other));
            }
        }
    }

    private static void roundOfFiveWheels() {
        rounds("at first", new CrankTheatre(), 72);
        rounds("least", Stage.teeth(2, 2, 2, 2, 2), 2);
        rounds("greatest", Stage.teeth(5, 7, 8, 9, 11), 27720);
        rounds("greatest in another order", Stage.teeth(11, 9, 8, 7, 5), 27720);
        rounds("with more teeth, but less", Stage.teeth(12, 11, 10, 9, 8), 3960);
        rounds("12 each", Stage.teeth(12, 12, 12, 12, 12), 12);
        rounds("2 to 12", Stage.teeth(2, 3, 4, 6, 12), 12);
        rounds("primes", Stage.teeth(2, 3, 5, 7, 11), 2310);
    }

    private static void roundWhetherStepsCanBeMadeOrNot() {
        CrankTheatre x = new CrankTheatre();
        x.stop(0);
        x.file(2, 1, 9);
        x.file(0, 1, 0);
        rounds("caught and jammed", x, 72);
        CrankTheatre y = Stage.at(9999);
        rounds("at the bound", y, 72);
    }

    private static void roundAwayFromTheToothZero() {
        CrankTheatre x = new CrankTheatre();
        x.turn(-17);
        rounds("17 back", x, 72);
        x.clutch(4);
        x.hand(4, 5);
        rounds("a loose wheel of its own tooth", x, 72);
        x.clutch(3);
        rounds("two loose wheels", x, 24);
        x.clutch(4);
        rounds("one loose wheel", x, 24);
    }

    /** The moon, of 12 teeth, and the traps turn; the picture is not allowed with the moon's tooth at the top. */
    private static CrankTheatre jamsAtTheMoons(int tooth) {
        CrankTheatre x = locked(4);
        x.file(2, 0, 9);
        x.file(3, 0, 9);
        for (int other = 0; other < 12; other++) {
            x.file(4, other, other == tooth ? 5 : 4);
        }
        return x;
    }

    private static void jamsInFrom0ToOneLessThanTheRound() {
        for (int tooth = 1; tooth < 12; tooth++) {
            CrankTheatre x = jamsAtTheMoons(tooth);
            Check.equal("forward to " + tooth, x.jamsIn(0), tooth - 1);
            Check.equal("back to " + tooth, x.jamsIn(1), 11 - tooth);
            Check.equal("so many can be made", x.turn(60), tooth - 1);
            Check.equal("none then", x.jamsIn(0), 0);
            Check.equal("back from there", x.jamsIn(1), 10);
            Check.equal("so many can be made", x.turn(-60), 10);
            Check.equal("forward again", x.jamsIn(0), 10);
        }
    }

    private static void jamsInTheLongestRound() {
        CrankTheatre x = Stage.teeth(5, 7, 8, 9, 11);
        x.turn(1);
        x.set(0);
        for (int wheel = 0; wheel < 5; wheel++) {
            int low = wheel < 2 ? 9 : 0;
            x.file(wheel, 0, low);
        }
        x.file(2, 0, 9);
        x.file(3, 0, 9);
        x.file(4, 0, 9);
        x.clutch(0);
        x.clutch(1);
        // The tops are all at 1, and at 0 together one step back or 791 steps forward.
        Check.equal("one step back", x.jamsIn(1), 0);
        Check.equal("790 steps", x.jamsIn(0), 790);
        CrankTheatre y = Stage.teeth(5, 7, 8, 9, 11);
        y.turn(1);
        for (int tooth = 0; tooth < 8; tooth++) {
            y.file(2, tooth, tooth == 0 ? 9 : 0);
        }
        y.file(0, 0, 0);
        Check.equal("a curtain and a trap", y.jamsIn(0), 38);
        Check.equal("a step back", y.jamsIn(1), 0);
    }

    private static void jamsNever() {
        Check.equal("at first", new CrankTheatre().jamsIn(0) + new CrankTheatre().jamsIn(1), -2);
        CrankTheatre x = jamsAtTheMoons(1);
        x.file(4, 1, 4);
        Check.equal("with the moon at 4", x.jamsIn(0), -1);
        x.file(4, 1, 9);
        Check.equal("with the moon at 9", x.jamsIn(0), 0);
        x.clutch(4);
        Check.equal("without locked wheels", x.jamsIn(0), -1);
        Check.equal("back, too", x.jamsIn(1), -1);
        // The trap is out at even teeth and the curtain in at odd ones, of 2 teeth each: never both.
        CrankTheatre y = Stage.teeth(2, 2, 2, 2, 2);
        y.file(2, 0, 9);
        y.file(0, 1, 0);
        Check.equal("never together", y.jamsIn(0), -1);
        y.change(2, 3);
        Check.equal("together with 3 teeth", y.jamsIn(0), 0);
    }

    private static void jamsByEitherReason() {
        CrankTheatre x = new CrankTheatre();
        x.file(3, 2, 5);
        x.file(1, 2, 4);
        Check.equal("a curtain", x.jamsIn(0), 1);
        x.file(1, 2, 5);
        x.file(2, 2, 5);
        Check.equal("both traps under a moon at 2", x.jamsIn(0), -1);
        x.set(1);
        Check.equal("above 1", x.jamsIn(0), 1);
        x.set(2);
        Check.equal("not above 2", x.jamsIn(0), -1);
        Check.equal("nor back", x.jamsIn(1), -1);
    }

    private static void jamsStopsAside() {
        CrankTheatre x = jamsAtTheMoons(9);
        x.stop(0);
        x.stop(1);
        Check.equal("stops aside", x.jamsIn(0), 8);
        Check.equal("caught", x.turn(60), 0);
        x.lift();
        Check.equal("lifted", x.jamsIn(0), 8);
        Check.equal("one step", x.turn(60), 1);
        Check.equal("one less", x.jamsIn(0), 7);
    }

    private static void jamsBoundsOfTheCountAside() {
        CrankTheatre x = Stage.at(9999);
        Check.equal("never at the bound", x.jamsIn(0), -1);
        // The tops are 3, 3, 7, 0 and 3.
        x.file(2, 2, 9);
        x.file(0, 2, 0);
        Check.equal("three steps would be let, but the bound", x.jamsIn(0), 2);
        Check.equal("no step can be made", x.turn(60), 0);
        CrankTheatre y = Stage.at(-9999);
        y.file(2, 6, 9);
        y.file(0, 2, 0);
        Check.equal("back beyond the bound", y.jamsIn(1), 2);
        Check.equal("no step can be made", y.turn(-60), 0);
    }

    private static void aheadFromMinus9999To9999() {
        CrankTheatre x = new CrankTheatre();
        for (int wheel = 0; wheel < 5; wheel++) {
            int teeth = x.wheel(wheel, 0);
            for (int steps : new int[] {-9999, -9998, -13, -12, -11, -1, 0, 1, 11, 12, 13, 9998, 9999}) {
                int due = x.tooth(wheel, Math.floorMod(steps, teeth));
                Check.equal("behind " + steps + " steps", x.ahead(steps, wheel), due);
            }
        }
        CrankTheatre far = Stage.at(9999);
        Check.equal("9999 beyond the bound", far.ahead(9999, 4), 6);
        Check.equal("9999 back", far.ahead(-9999, 4), 0);
        CrankTheatre back = Stage.at(-9999);
        Check.equal("9999 beyond the bound", back.ahead(-9999, 4), 6);
        Check.equal("9999 forward", back.ahead(9999, 4), 0);
    }

    private static void aheadOfNoStepIsNow() {
        CrankTheatre x = new CrankTheatre();
        for (int steps = 0; steps < 13; steps++) {
            for (int wheel = 0; wheel < 5; wheel++) {
                Check.equal("now", x.ahead(0, wheel), x.wheel(wheel, 3));
            }
            int next = x.ahead(1, 4);
            int last = x.ahead(-1, 4);
            x.turn(1);
            Check.equal("the next step", x.wheel(4, 3), next);
            x.turn(-2);
            Check.equal("the step before", x.wheel(4, 3), last);
            x.turn(2);
        }
    }

    private static void aheadWhetherStepsCanBeMadeOrNot() {
        CrankTheatre x = new CrankTheatre();
        x.stop(0);
        x.file(2, 1, 9);
        x.file(0, 1, 0);
        Check.equal("a trap that can not come out", x.ahead(1, 2), 9);
        Check.equal("under a curtain that is in", x.ahead(1, 0), 0);
        Check.equal("and behind it", x.ahead(2, 4), 2);
        Check.equal("caught", x.turn(1), 0);
    }

    private static void aheadOfALooseWheel() {
        for (int wheel = 0; wheel < 5; wheel++) {
            CrankTheatre x = new CrankTheatre();
            x.file(wheel, 1, 3);
            x.file(wheel, 0, wheel < 2 ? 8 : 2);
            Check.equal("locked", x.ahead(1, wheel), 3);
            x.clutch(wheel);
            for (int steps : new int[] {-9999, -1, 0, 1, 9999}) {
                Check.equal("loose", x.ahead(steps, wheel), wheel < 2 ? 8 : 2);
            }
        }
    }

    private static void freesEachWheel() {
        for (int wheel = 0; wheel < 4; wheel++) {
            CrankTheatre x = locked(wheel);
            x.file(wheel == 2 ? 3 : 2, 0, wheel < 2 ? 9 : 0);
            x.file(wheel, 1, wheel < 2 ? 0 : 9);
            if (wheel >= 2) {
                x.file(0, 0, 0);
            }
            Check.equal("jammed", x.why(0), 1);
            Check.equal("the only wheel", x.frees(0), wheel);
            Check.equal("free back", x.frees(1), -1);
            x.clutch(wheel);
            Check.equal("it can be made", x.turn(1), 1);
        }
        CrankTheatre x = jamsAtTheMoons(1);
        Check.equal("jammed", x.why(0), 2);
        Check.equal("the moon", x.frees(0), 4);
        CrankTheatre y = jamsAtTheMoons(11);
        Check.equal("the moon, back", y.frees(1), 4);
        Check.equal("free forward", y.frees(0), -1);
    }

    private static void freesTheLowestOne() {
        CrankTheatre x = new CrankTheatre();
        x.set(0);
        x.file(2, 1, 9);
        x.file(3, 1, 9);
        Check.equal("a trap, a trap or the moon", x.frees(0), 2);
        x.file(2, 0, 9);
        Check.equal("a trap or the moon", x.frees(0), 3);
        x.file(3, 0, 9);
        Check.equal("the moon", x.frees(0), 4);
        x.file(4, 1, 0);
        Check.equal("free", x.frees(0), -1);
        CrankTheatre y = new CrankTheatre();
        y.file(2, 1, 9);
        y.file(1, 1, 0);
        Check.equal("a curtain or a trap", y.frees(0), 1);
        y.file(0, 1, 0);
        Check.equal("the trap", y.frees(0), 2);
        y.file(1, 1, 9);
        Check.equal("a curtain or a trap", y.frees(0), 0);
        y.clutch(0);
        Check.equal("free with it loose", y.frees(0), -1);
    }

    private static void freesNoneIfTheStepCanBeMade() {
        CrankTheatre x = new CrankTheatre();
        Check.equal("forward", x.frees(0), -1);
        Check.equal("back", x.frees(1), -1);
        x.file(2, 2, 9);
        x.file(0, 2, 0);
        Check.equal("jams in two steps", x.frees(0), -1);
        x.turn(1);
        Check.equal("jams in one", x.frees(0), 0);
        Check.equal("but not back", x.frees(1), -1);
    }

    private static void freesNoneIfOneIsNotEnough() {
        CrankTheatre x = new CrankTheatre();
        x.file(2, 1, 9);
        x.file(3, 1, 9);
        x.file(0, 1, 0);
        x.file(1, 1, 0);
        Check.equal("two curtains and two traps", x.frees(0), -1);
        x.clutch(0);
        Check.equal("one is loose, the other frees it", x.frees(0), 1);
        x.clutch(0);
        x.clutch(2);
        Check.equal("one trap is loose, the other frees it", x.frees(0), 3);
        x.clutch(3);
        Check.equal("free", x.frees(0), -1);
        CrankTheatre y = new CrankTheatre();
        y.file(2, 1, 9);
        y.file(0, 1, 0);
        y.file(0, 0, 0);
        Check.equal("a curtain that is in now does not help", y.frees(0), 2);
    }

    private static void freesNoneIfCaughtOrAtTheBound() {
        CrankTheatre x = new CrankTheatre();
        x.file(2, 1, 9);
        x.file(0, 1, 0);
        x.stop(0);
        Check.equal("jammed and caught", x.frees(0), -1);
        Check.equal("caught alone", x.frees(1), -1);
        x.lift();
        Check.equal("jammed alone", x.frees(0), 0);
        Check.equal("neither", x.frees(1), -1);
        CrankTheatre y = Stage.at(9999);
        Check.equal("at the bound", y.frees(0), -1);
        y.file(2, 0, 9);
        y.file(0, 0, 0);
        Check.equal("jammed at the bound", y.frees(0), -1);
        CrankTheatre z = Stage.at(9998);
        z.file(2, 7, 9);
        z.file(0, 3, 0);
        Check.equal("jammed one ahead of the bound", z.frees(0), 0);
        freesNoneBack();
    }

    private static void freesNoneBack() {
        CrankTheatre x = new CrankTheatre();
        x.file(3, 8, 5);
        x.file(1, 5, 4);
        Check.equal("jammed alone", x.frees(1), 1);
        x.stop(0);
        Check.equal("jammed and caught", x.frees(1), -1);
        x.stop(0);
        Check.equal("no stop any more", x.frees(1), 1);
        CrankTheatre y = Stage.at(-9999);
        Check.equal("at the bound", y.frees(1), -1);
        y.file(2, 0, 9);
        y.file(0, 0, 0);
        Check.equal("why", y.why(1), 1);
        Check.equal("jammed at the bound", y.frees(1), -1);
        CrankTheatre z = Stage.at(-9998);
        z.file(2, 1, 9);
        z.file(0, 1, 0);
        Check.equal("jammed one ahead of the bound", z.frees(1), 0);
    }

    private static void freesByTheSettingAt() {
        for (int setting = 0; setting <= 9; setting++) {
            for (int moon = 0; moon <= 9; moon++) {
                CrankTheatre x = new CrankTheatre();
                x.file(2, 1, 5);
                x.file(3, 1, 5);
                x.file(4, 1, moon);
                x.set(setting);
                Check.equal("moon " + moon + " by " + setting, x.frees(0), moon > setting ? 2 : -1);
            }
        }
    }

    private static void allowedShareOfOnePicture() {
        Check.equalShare("no wheel is locked", locked().allowedShare(), 1.0);
        Check.equalShare("one of 12", jamsAtAllBut0().allowedShare(), 1.0 / 12);
        CrankTheatre x = jamsAtAllBut0();
        x.clutch(4);
        Check.equalShare("one of one", x.allowedShare(), 1.0);
    }

    private static CrankTheatre jamsAtAllBut0() {
        CrankTheatre x = locked(4);
        x.file(2, 0, 5);
        x.file(3, 0, 5);
        for (int tooth = 1; tooth < 12; tooth++) {
            x.file(4, tooth, 5);
        }
        return x;
    }

    private static void allowedShareFromOneToAll() {
        CrankTheatre x = jamsAtAllBut0();
        for (int allowed = 1; allowed <= 12; allowed++) {
            Check.equalShare(allowed + " of 12", x.allowedShare(), allowed / 12.0);
            x.file(4, allowed % 12, 4);
        }
        for (int teeth = 2; teeth <= 12; teeth++) {
            CrankTheatre y = locked(1);
            y.file(3, 0, 5);
            y.change(1, teeth);
            y.file(1, teeth - 1, 4);
            Check.equalShare("all but one of " + teeth, y.allowedShare(), (teeth - 1.0) / teeth);
            Check.equal("jams behind so many", y.jamsIn(0), teeth - 2);
        }
    }

    private static void allowedShareOfTheLongestRound() {
        CrankTheatre x = Stage.teeth(5, 7, 8, 9, 11);
        Check.equalShare("all of 27720", x.allowedShare(), 1.0);
        x.file(2, 1, 5);
        x.file(0, 1, 4);
        Check.equalShare("one of 40 is not", x.allowedShare(), 27027.0 / 27720);
        x.file(1, 1, 4);
        // 693 pictures have the curtain 0 in under the trap, 495 the curtain 1, 99 both.
        Check.equalShare("two curtains", x.allowedShare(), (27720 - 693 - 495 + 99) / 27720.0);
        x.stop(0);
        Check.equalShare("stops aside", x.allowedShare(), 26631 / 27720.0);
    }

    private static void meanHeightOfEachSum() {
        for (int sum = 0; sum <= 45; sum++) {
            CrankTheatre x = new CrankTheatre();
            x.set(9);
            int left = sum;
            for (int wheel = 0; wheel < 5; wheel++) {
                int height = Math.min(9, left);
                x.file(wheel, 0, height);
                left -= height;
            }
            Check.equalShare("a sum of " + sum, x.meanHeight(), (float) sum / 5);
            Check.equalShare("asked again", x.meanHeight(), sum / 5f);
        }
    }
}
