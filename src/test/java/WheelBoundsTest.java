/** Promises 5 to 9, 19 and 20, and the terms of wheels and the picture: a method for each sentence that names a bound. */
public final class WheelBoundsTest {
    private static final Class<IndexOutOfBoundsException> INDEX = IndexOutOfBoundsException.class;
    private static final Class<IllegalStateException> STATE = IllegalStateException.class;
    private static final int[] TEETH = {4, 6, 8, 9, 12};

    public static void main(String[] args) {
        pictureIsAllowedOrNotForTheFirstReason();
        clutchTakesWheels0To4();
        handTurns1To11TeethForward();
        handTurnsLooseWheelsAlone();
        handPassesOverPicturesInOneGo();
        handEndsAtTheSettingAndNotAbove();
        handOfACurtainAt4And5();
        handOfATrapAt4And5();
        handIsNoStep();
        handBehindEachOtherCall();
        fileTakesTheTeethThatAreThere();
        fileTakesHeights0To9();
        fileAtTheTopByThePicture();
        fileTheMoonAtTheTop();
        fileBesideTheTopAsOneLikes();
        changeTakes2To12Teeth();
        changeKeepsTheHeight();
        wheelsOf12TeethAreApart();
        changeIsAllowedInAnyPicture();
        setTakes0To9();
        setAtTheMoonsHeight();
        setIsFreeWithATrapIn();
        wheelTellsNumbers0To6();
        highTeethAt5();
        topToldByWhatWasDone();
        topToldSinceTheLatestChange();
        toothTellsTheTeethThatAreThere();
        Check.end();
    }

    private static int fault(int[] heights, int setting) {
        boolean left = heights[2] >= 5;
        boolean right = heights[3] >= 5;
        if ((left || right) && !(heights[0] >= 5 && heights[1] >= 5)) {
            return 1;
        }
        return left && right && heights[4] > setting ? 2 : 0;
    }

    private static void pictureIsAllowedOrNotForTheFirstReason() {
        int[] near = {0, 4, 5, 9};
        for (int heights = 0; heights < 256; heights++) {
            for (int moon = 0; moon <= 9; moon++) {
                CrankTheatre x = Stage.teeth(2, 2, 2, 2, 2);
                int[] picture = {near[heights % 4], near[heights / 4 % 4], near[heights / 16 % 4], near[heights / 64], moon};
                for (int wheel = 0; wheel < 5; wheel++) {
                    x.file(wheel, 1, picture[wheel]);
                }
                for (int setting = 0; setting <= 9; setting++) {
                    x.set(setting);
                    int due = fault(picture, setting);
                    Check.equal("why forward", x.why(0), due);
                    Check.equal("why back", x.why(1), due);
                    Check.equal("steps", x.turn(1), due == 0 ? 1 : 0);
                    x.undo();
                }
            }
        }
    }

    private static void clutchTakesWheels0To4() {
        for (int wheel = 0; wheel < 5; wheel++) {
            CrankTheatre x = new CrankTheatre();
            Check.equal("loose", x.clutch(wheel), 0);
            for (int other = 0; other < 5; other++) {
                Check.equal("locked " + other, x.wheel(other, 4), other == wheel ? 0 : 1);
            }
            Check.equal("locked again", x.clutch(wheel), 1);
            Check.equal("told", x.wheel(wheel, 4), 1);
            Check.equal("saved each time", x.count(12), 2);
        }
    }

    private static void handTurns1To11TeethForward() {
        for (int wheel = 0; wheel < 5; wheel++) {
            for (int teeth = 2; teeth <= 12; teeth++) {
                CrankTheatre x = new CrankTheatre();
                x.clutch(wheel);
                x.change(wheel, teeth);
                int top = 0;
                for (int by = 1; by <= 11; by++) {
                    top = (top + by) % teeth;
                    Check.equal("by " + by + " of " + teeth, x.hand(wheel, by), top);
                    Check.equal("top", x.wheel(wheel, 1), top);
                    Check.equal("top by deeds", x.wheel(wheel, 2), top);
                }
                Check.equal("saved", x.count(12), 6);
            }
        }
    }

    private static void handTurnsLooseWheelsAlone() {
        for (int wheel = 0; wheel < 5; wheel++) {
            int number = wheel;
            CrankTheatre x = new CrankTheatre();
            Check.refuses("locked at first", x, STATE, () -> x.hand(number, 1));
            x.clutch(wheel);
            Check.equal("loose", x.hand(wheel, 1), 1);
            for (int other = 0; other < 5; other++) {
                Check.equal("top of " + other, x.wheel(other, 1), other == wheel ? 1 : 0);
            }
            x.clutch(wheel);
            Check.refuses("locked again", x, STATE, () -> x.hand(number, 11));
        }
    }

    private static void handPassesOverPicturesInOneGo() {
        CrankTheatre x = new CrankTheatre();
        for (int tooth = 1; tooth <= 10; tooth++) {
            x.file(4, tooth, 9);
        }
        x.file(4, 11, 4);
        x.file(2, 0, 5);
        x.file(3, 0, 5);
        x.clutch(4);
        for (int by = 1; by <= 10; by++) {
            int to = by;
            Check.refuses("into it, by " + by, x, STATE, () -> x.hand(4, to));
        }
        Check.equal("over it", x.hand(4, 11), 11);
        Check.equal("and one more", x.hand(4, 1), 0);
    }

    private static void handEndsAtTheSettingAndNotAbove() {
        for (int setting = 0; setting <= 9; setting++) {
            for (int moon = 0; moon <= 9; moon++) {
                CrankTheatre x = new CrankTheatre();
                x.set(setting);
                x.file(2, 0, 9);
                x.file(3, 0, 9);
                x.file(4, 5, moon);
                x.clutch(4);
                if (moon > setting) {
                    Check.refuses("moon " + moon + " above " + setting, x, STATE, () -> x.hand(4, 5));
                } else {
                    Check.equal("moon " + moon + " by " + setting, x.hand(4, 5), 5);
                }
            }
        }
    }

    private static void handOfACurtainAt4And5() {
        for (int curtain = 0; curtain < 2; curtain++) {
            for (int trap = 2; trap < 4; trap++) {
                int wheel = curtain;
                CrankTheatre x = new CrankTheatre();
                x.file(curtain, 1, 4);
                x.file(curtain, 2, 5);
                x.file(trap, 0, 5);
                x.clutch(curtain);
                Check.refuses("a curtain at 4", x, STATE, () -> x.hand(wheel, 1));
                Check.equal("a curtain at 5", x.hand(curtain, 2), 2);
                x.file(trap, 0, 4);
                Check.equal("at 4 with the trap at 4", x.hand(curtain, TEETH[curtain] - 1), 1);
            }
        }
    }

    private static void handOfATrapAt4And5() {
        for (int trap = 2; trap < 4; trap++) {
            int wheel = trap;
            CrankTheatre x = new CrankTheatre();
            x.file(trap, 1, 4);
            x.file(trap, 2, 5);
            x.file(0, 0, 4);
            x.clutch(trap);
            Check.refuses("a trap at 5 under a curtain at 4", x, STATE, () -> x.hand(wheel, 2));
            Check.equal("a trap at 4", x.hand(trap, 1), 1);
            x.file(0, 0, 5);
            Check.equal("a trap at 5 under a curtain at 5", x.hand(trap, 1), 2);
        }
    }

    private static void handIsNoStep() {
        CrankTheatre x = new CrankTheatre();
        x.stop(0);
        x.clutch(2);
        Check.equal("turned while the crank is caught", x.hand(2, 3), 3);
        x.lift();
        Check.equal("and while it is lifted", x.hand(2, 3), 6);
        Check.equal("which lasts", x.count(11), 1);
        Check.equal("no count", x.count(0) + x.count(3) + x.count(4), 0);
    }

    private static void fileTakesTheTeethThatAreThere() {
        for (int wheel = 0; wheel < 5; wheel++) {
            for (int teeth = 2; teeth <= 12; teeth++) {
                CrankTheatre x = new CrankTheatre();
                int number = wheel;
                int beyond = teeth;
                x.change(wheel, teeth);
                int before = x.wheel(wheel, 3);
                Check.equal("the last one", x.file(wheel, teeth - 1, 2), before);
                Check.equal("the one before", x.tooth(wheel, teeth - 2), before);
                Check.equal("the tooth 0", x.file(wheel, 0, 3), before);
                Check.refuses("beyond", x, INDEX, () -> x.file(number, beyond, 2));
                Check.refuses("below", x, INDEX, () -> x.file(number, -1, 2));
                Check.equal("filed last", x.tooth(wheel, teeth - 1), 2);
                Check.equal("filed first", x.tooth(wheel, 0), 3);
                othersAsAtFirst(x, wheel);
            }
        }
    }

    private static void othersAsAtFirst(CrankTheatre x, int wheel) {
        CrankTheatre first = new CrankTheatre();
        for (int other = 0; other < 5; other++) {
            if (other == wheel) {
                continue;
            }
            for (int tooth = 0; tooth < TEETH[other]; tooth++) {
                Check.equal("tooth " + tooth + " of " + other, x.tooth(other, tooth), first.tooth(other, tooth));
            }
            Check.equal("teeth of " + other, x.wheel(other, 0), TEETH[other]);
        }
    }

    private static void fileTakesHeights0To9() {
        for (int wheel = 0; wheel < 5; wheel++) {
            CrankTheatre x = new CrankTheatre();
            int before = x.tooth(wheel, 1);
            for (int height = 0; height <= 9; height++) {
                Check.equal("height before", x.file(wheel, 1, height), before);
                Check.equal("height behind", x.tooth(wheel, 1), height);
                before = height;
            }
            Check.equal("to the same", x.file(wheel, 1, 9), 9);
            Check.equal("saved", x.count(12), 6);
        }
    }

    private static void fileAtTheTopByThePicture() {
        for (int curtain = 0; curtain < 2; curtain++) {
            for (int trap = 2; trap < 4; trap++) {
                int in = curtain;
                int out = trap;
                CrankTheatre x = new CrankTheatre();
                x.file(trap, 0, 5);
                Check.refuses("the curtain to 4", x, STATE, () -> x.file(in, 0, 4));
                Check.equal("the curtain to 5", x.file(curtain, 0, 5), 9);
                Check.equal("the trap to 4", x.file(trap, 0, 4), 5);
                Check.equal("the curtain to 4", x.file(curtain, 0, 4), 5);
                Check.refuses("the trap to 5", x, STATE, () -> x.file(out, 0, 5));
                Check.equal("the trap to 4 still", x.file(trap, 0, 4), 4);
            }
        }
    }

    private static void fileTheMoonAtTheTop() {
        for (int setting = 0; setting <= 9; setting++) {
            CrankTheatre x = new CrankTheatre();
            x.set(setting);
            x.file(2, 0, 5);
            x.file(3, 0, 5);
            for (int moon = 0; moon <= 9; moon++) {
                int height = moon;
                if (moon > setting) {
                    Check.refuses("moon above", x, STATE, () -> x.file(4, 0, height));
                } else {
                    x.file(4, 0, moon);
                    Check.equal("moon", x.wheel(4, 3), moon);
                }
            }
            x.file(3, 0, 4);
            x.file(4, 0, 9);
            Check.equal("the moon is free with one trap in", x.wheel(4, 3), 9);
            if (setting < 9) {
                Check.refuses("then that trap is not", x, STATE, () -> x.file(3, 0, 5));
            } else {
                Check.equal("but for the setting 9", x.file(3, 0, 5), 4);
            }
        }
    }

    private static void fileBesideTheTopAsOneLikes() {
        CrankTheatre x = new CrankTheatre();
        x.file(2, 0, 9);
        x.file(3, 0, 9);
        Check.equal("a curtain's next tooth", x.file(0, 1, 0), 9);
        Check.equal("a curtain's last tooth", x.file(1, 5, 0), 9);
        Check.equal("the moon's next tooth", x.file(4, 1, 9), 1);
        Check.equal("it jams then", x.why(0), 0);
        x.file(2, 1, 5);
        Check.equal("it jams then", x.why(0), 1);
    }

    private static void changeTakes2To12Teeth() {
        for (int wheel = 0; wheel < 5; wheel++) {
            int had = TEETH[wheel];
            CrankTheatre x = new CrankTheatre();
            for (int teeth : new int[] {2, 3, 11, 12, 12, 2, 2, 7}) {
                Check.equal("had", x.change(wheel, teeth), had);
                Check.equal("has", x.wheel(wheel, 0), teeth);
                had = teeth;
            }
            othersAsAtFirst(x, wheel);
            x.undo();
            Check.equal("undone", x.wheel(wheel, 0), 2);
        }
    }

    private static void changeKeepsTheHeight() {
        for (int wheel = 0; wheel < 5; wheel++) {
            for (int height = 0; height <= 9; height++) {
                int teeth = height + 3;
                CrankTheatre x = new CrankTheatre();
                x.file(wheel, 3, height);
                x.turn(3);
                x.clutch(wheel);
                x.change(wheel, teeth);
                Check.equal("its height", x.wheel(wheel, 3), height);
                Check.equal("its top", x.wheel(wheel, 1), 0);
                Check.equal("its top by deeds", x.wheel(wheel, 2), 0);
                Check.equal("loose still", x.wheel(wheel, 4), 0);
                for (int tooth = 0; tooth < teeth; tooth++) {
                    Check.equal("its tooth", x.tooth(wheel, tooth), height);
                }
                Check.equal("all high or none", x.wheel(wheel, 6), height < 5 ? 0 : teeth);
            }
        }
    }

    /** What is done to one wheel is seen at no other one, also if all have as many teeth as can be. */
    private static void wheelsOf12TeethAreApart() {
        for (int wheel = 0; wheel < 5; wheel++) {
            for (int call = 0; call < 4; call++) {
                CrankTheatre x = new CrankTheatre();
                for (int each = 0; each < 5; each++) {
                    x.change(each, 12);
                    x.file(each, 0, each < 2 ? 8 : 2);
                    x.file(each, 1, 1);
                    x.file(each, 11, 3);
                }
                doTo(x, wheel, call);
                for (int each = 0; each < 5; each++) {
                    if (each != wheel) {
                        Check.equal("the tooth 0 of " + each, x.tooth(each, 0), each < 2 ? 8 : 2);
                        Check.equal("the tooth 1 of " + each, x.tooth(each, 1), 1);
                        Check.equal("the tooth 11 of " + each, x.tooth(each, 11), 3);
                    }
                }
            }
        }
    }

    private static void doTo(CrankTheatre x, int wheel, int call) {
        if (call < 2) {
            x.change(wheel, call == 0 ? 12 : 2);
        } else {
            x.file(wheel, call == 2 ? 0 : 11, 7 - 3 * (wheel / 2));
        }
    }

    /** The wheel is turned, filed and looked at with no look at the whole between: each call sees what is now. */
    private static void handBehindEachOtherCall() {
        for (int call = 0; call < 4; call++) {
            CrankTheatre x = new CrankTheatre();
            x.clutch(4);
            x.file(4, 2, 9);
            x.file(4, 3, 9);
            x.file(2, 1, 5);
            x.file(3, 1, 5);
            x.turn(1);
            if (call == 0) {
                x.hand(4, 1);
            } else if (call == 1) {
                x.file(4, 1, 9);
            } else if (call == 2) {
                x.set(2);
            }
            Check.equal("refused", refused(x, call == 0 ? 1 : 2), 1);
            Check.equal("refused", refused(x, call == 0 ? 2 : 3), 1);
            Check.equal("the moon's top", x.wheel(4, 1), call == 0 ? 1 : 0);
        }
    }

    private static int refused(CrankTheatre x, int by) {
        try {
            x.hand(4, by);
            return 0;
        } catch (IllegalStateException e) {
            return 1;
        }
    }

    private static void changeIsAllowedInAnyPicture() {
        for (int wheel = 0; wheel < 5; wheel++) {
            for (int teeth = 2; teeth <= 12; teeth++) {
                CrankTheatre x = Stage.tight();
                int height = x.wheel(wheel, 3);
                Check.equal("had", x.change(wheel, teeth), TEETH[wheel]);
                Check.equal("height", x.wheel(wheel, 3), height);
            }
        }
    }

    private static void setTakes0To9() {
        CrankTheatre x = new CrankTheatre();
        int before = 4;
        for (int height = 0; height <= 9; height++) {
            Check.equal("before", x.set(height), before);
            Check.equal("told", x.count(9), height);
            before = height;
        }
        Check.equal("to the same", x.set(9), 9);
        Check.equal("saved each time", x.undo() + x.count(9), 14);
    }

    private static void setAtTheMoonsHeight() {
        for (int moon = 0; moon <= 9; moon++) {
            CrankTheatre x = new CrankTheatre();
            x.set(9);
            x.file(4, 0, moon);
            x.file(2, 0, 5);
            x.file(3, 0, 5);
            for (int height = 9; height >= moon; height--) {
                x.set(height);
                Check.equal("the moon is not above", x.count(9), height);
            }
            for (int height = 0; height < moon; height++) {
                int below = height;
                Check.refuses("the moon is above", x, STATE, () -> x.set(below));
            }
        }
    }

    private static void setIsFreeWithATrapIn() {
        for (int trap = 1; trap <= 3; trap++) {
            CrankTheatre x = new CrankTheatre();
            x.file(4, 0, 9);
            x.file(2, 0, 4);
            x.file(3, 0, 4);
            if (trap > 1) {
                x.file(trap, 0, 5);
            }
            Check.equal("the moon at 9", x.set(0), 4);
        }
    }

    private static void wheelTellsNumbers0To6() {
        CrankTheatre x = new CrankTheatre();
        x.turn(7);
        x.clutch(3);
        int[][] due = {{4, 3, 3, 9, 1, 1, 4}, {6, 1, 1, 9, 1, 1, 6}, {8, 7, 7, 0, 1, 0, 0}, {9, 7, 7, 0, 0, 0, 0},
            {12, 7, 7, 5, 1, 1, 3}};
        for (int wheel = 0; wheel < 5; wheel++) {
            for (int what = 0; what <= 6; what++) {
                Check.equal("the number " + what + " of " + wheel, x.wheel(wheel, what), due[wheel][what]);
            }
        }
    }

    private static void highTeethAt5() {
        for (int wheel = 0; wheel < 5; wheel++) {
            CrankTheatre x = new CrankTheatre();
            x.change(wheel, 12);
            for (int tooth = 0; tooth < 12; tooth++) {
                x.file(wheel, tooth, 4);
            }
            Check.equal("none at 4", x.wheel(wheel, 6), 0);
            for (int tooth = 0; tooth < 12; tooth++) {
                x.file(wheel, tooth, tooth == 11 ? 9 : 5);
                Check.equal("at 5 or more", x.wheel(wheel, 6), tooth + 1);
            }
        }
    }

    private static void topToldByWhatWasDone() {
        for (int wheel = 0; wheel < 5; wheel++) {
            CrankTheatre x = new CrankTheatre();
            int told = 0;
            for (int round = 1; round <= 12; round++) {
                x.turn(-7 * round % 60);
                told -= 7 * round % 60;
                both(x, wheel, told);
                x.clutch(wheel);
                x.turn(round);
                both(x, wheel, told);
                x.hand(wheel, 12 - round == 0 ? 11 : 12 - round);
                told += 12 - round == 0 ? 11 : 12 - round;
                both(x, wheel, told);
                x.clutch(wheel);
                x.turn(3);
                told += 3;
                both(x, wheel, told);
            }
        }
    }

    private static void both(CrankTheatre x, int wheel, int told) {
        int top = Math.floorMod(told, x.wheel(wheel, 0));
        Check.equal("top of " + wheel, x.wheel(wheel, 1), top);
        Check.equal("top by deeds of " + wheel, x.wheel(wheel, 2), top);
    }

    private static void topToldSinceTheLatestChange() {
        for (int teeth = 2; teeth <= 12; teeth++) {
            CrankTheatre x = new CrankTheatre();
            x.turn(-5);
            x.change(1, teeth);
            both(x, 1, 0);
            x.turn(-1);
            both(x, 1, -1);
            x.turn(-60);
            both(x, 1, -61);
            x.clutch(1);
            x.hand(1, 11);
            both(x, 1, -50);
            x.change(1, teeth);
            both(x, 1, 0);
            x.undo();
            both(x, 1, -50);
            x.keep();
            x.change(1, 5);
            x.hand(1, 1);
            both(x, 1, 1);
            x.goBack();
            both(x, 1, -50);
        }
    }

    private static void toothTellsTheTeethThatAreThere() {
        for (int wheel = 0; wheel < 5; wheel++) {
            int number = wheel;
            for (int teeth = 2; teeth <= 12; teeth++) {
                int beyond = teeth;
                CrankTheatre x = new CrankTheatre();
                x.turn(1);
                x.change(wheel, teeth);
                x.file(wheel, teeth - 1, 3);
                Check.equal("the last one", x.tooth(wheel, teeth - 1), 3);
                Check.equal("the tooth 0", x.tooth(wheel, 0), x.wheel(wheel, 3));
                Check.refuses("beyond", x, INDEX, () -> x.tooth(number, beyond));
                Check.refuses("below", x, INDEX, () -> x.tooth(number, -1));
            }
        }
    }
}
