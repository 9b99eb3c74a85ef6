/** Promises 10, 11 and 21, and the term of scenes: a method for each sentence that names a bound. */
public final class SceneBoundsTest {
    private static final Class<IndexOutOfBoundsException> INDEX = IndexOutOfBoundsException.class;
    private static final Class<IllegalStateException> STATE = IllegalStateException.class;

    public static void main(String[] args) {
        rememberTakesSixScenes();
        rememberSavesAndIsUndone();
        forgetTakesTheNumbersThatAreThere();
        forgetMakesGreaterNumbersOneLess();
        forgetFromFullToEmpty();
        sceneTellsNumbers0To7();
        sceneHoldsHeights0To9();
        sceneIsThePictureInAllFiveWheels();
        sceneIsThePictureByHeightsAlone();
        sceneAllowedAtTheMoonsHeight();
        sceneAllowedWithATrapInAnyway();
        stepsFrom0ToOneLessThanTheRound();
        stepsInTheLongestRound();
        stepsToTheNearestOfMany();
        neverFound();
        foundWhetherStepsCanBeMadeOrNot();
        foundBeyondTheBoundOfTheCount();
        foundWithoutLockedWheels();
        Check.end();
    }

    private static void rememberTakesSixScenes() {
        CrankTheatre x = new CrankTheatre();
        for (int scene = 0; scene < 6; scene++) {
            Check.equal("scenes", x.count(7), scene);
            Check.equal("number", x.remember(), scene);
        }
        Check.equal("scenes", x.count(7), 6);
        Check.refuses("a seventh", x, STATE, x::remember);
        x.turn(1);
        Check.refuses("a seventh of another picture", x, STATE, x::remember);
        Check.equal("one goes", x.forget(0), 5);
        Check.equal("one comes", x.remember(), 5);
        Check.refuses("a seventh again", x, STATE, x::remember);
        Check.equal("the latest one", x.scene(5, 4), 1);
        Check.equal("the one before", x.scene(4, 4), 0);
    }

    private static void rememberSavesAndIsUndone() {
        CrankTheatre x = new CrankTheatre();
        for (int scene = 0; scene < 6; scene++) {
            x.remember();
            x.turn(1);
        }
        x.undo();
        Check.equal("undone", x.undo(), 4);
        Check.equal("five are left", x.count(7), 5);
        Check.refuses("the sixth is gone", x, INDEX, () -> x.scene(5, 0));
        Check.equal("there is room", x.remember(), 5);
        Check.equal("the moon in it", x.scene(5, 4), 5);
    }

    /** The scene i has the moon at i. */
    private static CrankTheatre scenes(int number) {
        CrankTheatre x = new CrankTheatre();
        for (int scene = 0; scene < number; scene++) {
            x.remember();
            x.turn(1);
        }
        return x;
    }

    private static void forgetTakesTheNumbersThatAreThere() {
        for (int number = 0; number <= 6; number++) {
            for (int scene = -1; scene <= 6; scene++) {
                int wanted = scene;
                CrankTheatre x = scenes(number);
                if (scene < 0 || scene >= number) {
                    Check.refuses("forget " + scene + " of " + number, x, INDEX, () -> x.forget(wanted));
                    Check.refuses("scene " + scene + " of " + number, x, INDEX, () -> x.scene(wanted, 0));
                } else {
                    Check.equal("the moon of " + scene, x.scene(scene, 4), scene);
                    Check.equal("left", x.forget(scene), number - 1);
                }
            }
        }
    }

    private static void forgetMakesGreaterNumbersOneLess() {
        for (int number = 1; number <= 6; number++) {
            for (int gone = 0; gone < number; gone++) {
                CrankTheatre x = scenes(number);
                x.forget(gone);
                for (int scene = 0; scene < number - 1; scene++) {
                    Check.equal("moon", x.scene(scene, 4), scene < gone ? scene : scene + 1);
                    Check.equal("curtain", x.scene(scene, 0), 9);
                    Check.equal("trap", x.scene(scene, 3), 0);
                }
                Check.equal("undone", x.undo(), Math.min(2 * number, 5));
                for (int scene = 0; scene < number; scene++) {
                    Check.equal("moon again", x.scene(scene, 4), scene);
                }
            }
        }
    }

    private static void forgetFromFullToEmpty() {
        CrankTheatre x = scenes(6);
        for (int left = 5; left >= 0; left--) {
            Check.equal("left", x.forget(left % 2 == 0 ? 0 : left), left);
            Check.equal("told", x.count(7), left);
        }
        Check.refuses("none is left", x, INDEX, () -> x.forget(0));
        Check.equal("the numbers begin anew", x.remember(), 0);
    }

    private static void sceneTellsNumbers0To7() {
        CrankTheatre x = new CrankTheatre();
        x.file(0, 0, 8);
        x.file(2, 0, 1);
        x.file(3, 0, 2);
        x.file(4, 0, 7);
        x.remember();
        int[] now = {8, 9, 1, 2, 7, 1, 1, 0};
        int[] then = {8, 9, 1, 2, 7, 0, 1, 71};
        for (int what = 0; what <= 7; what++) {
            Check.equal("the number " + what, x.scene(0, what), now[what]);
        }
        x.turn(1);
        for (int what = 0; what <= 7; what++) {
            Check.equal("the number " + what + " a step behind", x.scene(0, what), then[what]);
        }
    }

    private static void sceneHoldsHeights0To9() {
        for (int wheel = 0; wheel < 5; wheel++) {
            CrankTheatre x = new CrankTheatre();
            for (int height = 0; height <= 9; height++) {
                x.file(wheel, 0, height);
                x.remember();
                Check.equal("height", x.scene(0, wheel), height);
                x.forget(0);
            }
        }
    }

    private static void sceneIsThePictureInAllFiveWheels() {
        for (int wheel = 0; wheel < 5; wheel++) {
            CrankTheatre x = new CrankTheatre();
            x.remember();
            Check.equal("as it", x.scene(0, 5), 1);
            int height = x.wheel(wheel, 3);
            x.file(wheel, 0, height == 0 ? 1 : height - 1);
            Check.equal("one wheel is not as it", x.scene(0, 5), 0);
            x.file(wheel, 0, height);
            Check.equal("as it again", x.scene(0, 5), 1);
        }
    }

    private static void sceneIsThePictureByHeightsAlone() {
        CrankTheatre x = new CrankTheatre();
        x.turn(1);
        x.remember();
        x.turn(10);
        Check.equal("other teeth, the same heights", x.scene(0, 5), 1);
        Check.equal("no step", x.scene(0, 7), 0);
        x.change(0, 2);
        x.clutch(0);
        x.set(0);
        x.stop(11);
        Check.equal("whatever else is changed", x.scene(0, 5), 1);
        x.turn(1);
        Check.equal("caught, and still as it", x.scene(0, 5), 1);
    }

    private static void sceneAllowedAtTheMoonsHeight() {
        for (int moon = 0; moon <= 9; moon++) {
            CrankTheatre x = new CrankTheatre();
            x.set(9);
            x.file(4, 0, moon);
            x.file(2, 0, 5);
            x.file(3, 0, 5);
            x.remember();
            x.file(2, 0, 4);
            for (int setting = 0; setting <= 9; setting++) {
                x.set(setting);
                Check.equal("moon " + moon + " by " + setting, x.scene(0, 6), moon > setting ? 0 : 1);
                Check.equal("not the picture of now", x.scene(0, 5), 0);
            }
        }
    }

    private static void sceneAllowedWithATrapInAnyway() {
        for (int trap = 2; trap < 4; trap++) {
            CrankTheatre x = new CrankTheatre();
            x.file(4, 0, 9);
            x.file(2, 0, 4);
            x.file(3, 0, 4);
            x.remember();
            x.file(trap, 0, 5);
            x.remember();
            x.set(0);
            Check.equal("both in", x.scene(0, 6), 1);
            Check.equal("one out", x.scene(1, 6), 1);
        }
    }

    private static void stepsFrom0ToOneLessThanTheRound() {
        CrankTheatre x = new CrankTheatre();
        for (int wheel = 0; wheel < 5; wheel++) {
            x.file(wheel, 0, wheel < 2 ? 8 : 3);
        }
        x.remember();
        for (int steps = 0; steps <= 73; steps++) {
            Check.equal("steps to it behind " + steps, x.scene(0, 7), (72 - steps % 72) % 72);
            Check.equal("as it", x.scene(0, 5), steps % 72 == 0 ? 1 : 0);
            x.turn(1);
        }
        x.turn(-60);
        x.turn(-15);
        Check.equal("one step", x.scene(0, 7), 1);
        Check.equal("made", x.turn(1), 1);
        Check.equal("none", x.scene(0, 7), 0);
    }

    private static void stepsInTheLongestRound() {
        CrankTheatre x = new CrankTheatre();
        int[] teeth = {5, 7, 8, 9, 11};
        for (int wheel = 0; wheel < 5; wheel++) {
            x.change(wheel, teeth[wheel]);
            x.file(wheel, 0, wheel < 2 ? 8 : 3);
        }
        x.remember();
        x.turn(1);
        Check.equal("a whole round but one step", x.scene(0, 7), 27719);
        x.turn(-2);
        Check.equal("one step", x.scene(0, 7), 1);
        x.change(0, 4);
        Check.equal("never, with a wheel that has no such tooth", x.scene(0, 7), -1);
    }

    private static void stepsToTheNearestOfMany() {
        CrankTheatre x = new CrankTheatre();
        for (int wheel = 0; wheel < 4; wheel++) {
            x.clutch(wheel);
        }
        x.turn(2);
        x.remember();
        int[] due = {0, 7, 6, 5, 4, 3, 2, 1, 0, 3, 2, 1, 0};
        for (int steps = 0; steps < due.length; steps++) {
            Check.equal("behind " + steps, x.scene(0, 7), due[steps]);
            x.turn(1);
        }
    }

    private static void neverFound() {
        for (int wheel = 0; wheel < 5; wheel++) {
            CrankTheatre x = new CrankTheatre();
            x.file(wheel, 0, 3);
            x.remember();
            x.file(wheel, 0, 4);
            int last = x.wheel(wheel, 0) - 1;
            for (int tooth = 1; tooth <= last; tooth++) {
                x.file(wheel, tooth, 4);
            }
            Check.equal("no tooth of 3", x.scene(0, 7), -1);
            x.file(wheel, last, 3);
            x.clutch(wheel);
            Check.equal("loose", x.scene(0, 7), -1);
            x.file(wheel, 0, 3);
            Check.equal("now", x.scene(0, 7), 0);
        }
    }

    private static void foundWhetherStepsCanBeMadeOrNot() {
        CrankTheatre x = new CrankTheatre();
        x.file(4, 3, 9);
        x.turn(3);
        x.remember();
        x.turn(-3);
        x.file(2, 1, 9);
        x.file(0, 1, 0);
        x.stop(0);
        Check.equal("caught, and jammed", x.why(0), 1);
        Check.equal("found behind it", x.scene(0, 7), 3);
        Check.equal("no step", x.turn(3), 0);
    }

    private static void foundBeyondTheBoundOfTheCount() {
        CrankTheatre x = Stage.at(9999);
        x.file(4, 4, 9);
        x.clutch(0);
        x.turn(-11);
        x.remember();
        x.turn(11);
        Check.equal("the picture of 9988", x.scene(0, 4), 9);
        Check.equal("a step beyond the bound", x.scene(0, 7), 1);
        Check.equal("can not be made", x.turn(1), 0);
    }

    private static void foundWithoutLockedWheels() {
        CrankTheatre x = new CrankTheatre();
        x.remember();
        for (int wheel = 0; wheel < 5; wheel++) {
            x.clutch(wheel);
        }
        x.turn(9);
        Check.equal("now", x.scene(0, 7), 0);
        x.hand(4, 1);
        Check.equal("never", x.scene(0, 7), -1);
        x.hand(4, 11);
        Check.equal("now again", x.scene(0, 7), 0);
    }
}
