/** Promises 1 to 4, 22 and 23, and the terms of the crank: a method for each sentence that names a bound. */
public final class CrankBoundsTest {
    private static final int[] TEETH = {4, 6, 8, 9, 12};

    public static void main(String[] args) {
        newTheatreHasNoStopAndNoScene();
        newTheatreIsReadyForText();
        theatresAreApart();
        turnTakes1To60BothWays();
        turnMakesUpToSoManySteps();
        turnEndsAheadOfAPicture();
        turnEndsAtTheBounds();
        turnSavesAlsoIfNoStepIsMade();
        toothZeroBehindTheLastOne();
        looseWheelsStay();
        placeIsTheCountModulo60();
        caughtAtAStopAlone();
        liftTellsIfItWasCaught();
        liftLastsToTheNextStepThatIsMade();
        liftAtNoStopHoldsForTheNextOne();
        everyPlaceCanBeAStop();
        stopsCatchBelowZero();
        firstReasonForward();
        firstReasonBack();
        boundOfTheCountForward();
        boundOfTheCountBack();
        stepsSoFar();
        lockedWheelsFromNoneToFive();
        wheelsOutAt5();
        Check.end();
    }

    private static void newTheatreHasNoStopAndNoScene() {
        for (int place = 0; place < 60; place++) {
            CrankTheatre x = new CrankTheatre();
            Check.equal("the only stop", x.stop(place), 1);
        }
        CrankTheatre x = new CrankTheatre();
        Check.equal("never caught", x.turn(60), 60);
        Check.refuses("the scene 0", x, IndexOutOfBoundsException.class, () -> x.scene(0, 0));
        Check.equal("the first scene's number", x.remember(), 0);
    }

    private static void newTheatreIsReadyForText() {
        CrankTheatre x = new CrankTheatre();
        Check.equal("no error", x.firstError(), 0);
        Check.equal("no latest stop", x.count(10), 0);
        Check.equal("the first character", x.append('+'), 1);
    }

    private static void theatresAreApart() {
        CrankTheatre x = new CrankTheatre();
        CrankTheatre y = new CrankTheatre();
        long before = y.digest();
        x.file(4, 0, 9);
        x.stop(0);
        x.keep();
        x.remember();
        x.append('l');
        Check.equal("the other theatre", y.digest(), before);
        Check.equal("a third one", new CrankTheatre().digest(), before);
    }

    private static void turnTakes1To60BothWays() {
        for (int steps = 1; steps <= 60; steps++) {
            CrankTheatre x = new CrankTheatre();
            Check.equal("forward", x.turn(steps), steps);
            Check.equal("count forward", x.count(0), steps);
            CrankTheatre y = new CrankTheatre();
            Check.equal("back", y.turn(-steps), steps);
            Check.equal("count back", y.count(0), -steps);
        }
    }

    private static void turnMakesUpToSoManySteps() {
        for (int place = 1; place < 60; place++) {
            CrankTheatre x = new CrankTheatre();
            x.stop(place);
            Check.equal("one less than to the stop", x.turn(Math.max(1, place - 1)), Math.max(1, place - 1));
            x.undo();
            Check.equal("just to the stop", x.turn(place), place);
            x.undo();
            Check.equal("60 are too many", x.turn(60), place);
            x.undo();
            Check.equal("60 back", x.turn(-60), 60 - place);
        }
        CrankTheatre x = new CrankTheatre();
        x.stop(0);
        Check.equal("caught now", x.turn(60) + x.turn(-60) + x.turn(1) + x.turn(-1), 0);
        x.lift();
        Check.equal("a whole round of places", x.turn(60), 60);
        Check.equal("caught again", x.turn(1), 0);
    }

    /** The trap 3 is out at 6, 15, 24.. and the curtain 0 in at 0, 4, 8..: both at 24 forward, and at 12 back. */
    private static CrankTheatre jamsAt24() {
        CrankTheatre x = new CrankTheatre();
        x.file(3, 6, 5);
        x.file(0, 0, 4);
        return x;
    }

    private static void turnEndsAheadOfAPicture() {
        for (int steps = 1; steps <= 60; steps++) {
            Check.equal("forward " + steps, jamsAt24().turn(steps), Math.min(steps, 23));
            Check.equal("back " + steps, jamsAt24().turn(-steps), Math.min(steps, 11));
        }
        CrankTheatre x = jamsAt24();
        x.file(0, 0, 5);
        Check.equal("with the curtain at 5", x.turn(60), 60);
        CrankTheatre y = jamsAt24();
        y.file(3, 6, 4);
        Check.equal("with the trap at 4", y.turn(60), 60);
    }

    private static void turnEndsAtTheBounds() {
        CrankTheatre x = Stage.at(9940);
        Check.equal("59 to the bound", x.turn(60), 59);
        Check.equal("none beyond", x.turn(60), 0);
        x.turn(-1);
        Check.equal("one to it", x.turn(1), 1);
        Check.equal("none beyond", x.turn(1), 0);
        Check.equal("back", x.turn(-60), 60);
        Check.equal("just to it", x.turn(60), 60);
        CrankTheatre y = Stage.at(-9940);
        Check.equal("59 to the bound", y.turn(-60), 59);
        Check.equal("none beyond", y.turn(-60), 0);
        y.turn(1);
        Check.equal("one to it", y.turn(-2), 1);
        Check.equal("count", y.count(0), -9999);
    }

    private static void turnSavesAlsoIfNoStepIsMade() {
        CrankTheatre x = new CrankTheatre();
        x.stop(0);
        Check.equal("saved", x.count(12), 1);
        Check.equal("no step", x.turn(1), 0);
        Check.equal("saved by it", x.count(12), 2);
        Check.equal("undone", x.undo(), 1);
        Check.equal("the stop is there", x.count(6), 1);
    }

    private static void toothZeroBehindTheLastOne() {
        for (int steps = 1; steps <= 60; steps++) {
            CrankTheatre x = new CrankTheatre();
            CrankTheatre y = new CrankTheatre();
            x.turn(steps);
            y.turn(-steps);
            for (int wheel = 0; wheel < 5; wheel++) {
                Check.equal("top forward", x.wheel(wheel, 1), steps % TEETH[wheel]);
                Check.equal("top back", y.wheel(wheel, 1), (TEETH[wheel] - steps % TEETH[wheel]) % TEETH[wheel]);
            }
            Check.equal("back again", x.turn(-steps), steps);
            for (int wheel = 0; wheel < 5; wheel++) {
                Check.equal("all wheels as they were", x.wheel(wheel, 1), 0);
            }
        }
    }

    private static void looseWheelsStay() {
        for (int loose = 0; loose < 5; loose++) {
            CrankTheatre x = new CrankTheatre();
            x.clutch(loose);
            x.turn(13);
            for (int wheel = 0; wheel < 5; wheel++) {
                Check.equal("top with " + loose + " loose", x.wheel(wheel, 1), wheel == loose ? 0 : 13 % TEETH[wheel]);
            }
        }
    }

    private static void placeIsTheCountModulo60() {
        for (int start = -125; start <= 75; start += 50) {
            CrankTheatre x = Stage.at(start);
            for (int count = start; count <= start + 50; count++) {
                Check.equal("count", x.count(0), count);
                Check.equal("place of " + count, x.count(1), Math.floorMod(count, 60));
                x.turn(1);
            }
        }
        Check.equal("place of 9999", Stage.at(9999).count(1), 39);
        Check.equal("place of -9999", Stage.at(-9999).count(1), 21);
    }

    private static void caughtAtAStopAlone() {
        for (int place = 0; place < 60; place++) {
            CrankTheatre x = new CrankTheatre();
            if (place > 0) {
                x.turn(place);
            }
            x.stop((place + 59) % 60);
            x.stop((place + 1) % 60);
            Check.equal("between two stops", x.count(2), 0);
            x.stop(place);
            Check.equal("at a stop", x.count(2), 1);
            Check.equal("why forward", x.why(0), 3);
            Check.equal("why back", x.why(1), 3);
            x.stop(place);
            Check.equal("not a stop any more", x.count(2), 0);
            Check.equal("one step onto the next stop", x.turn(2), 1);
            Check.equal("caught there", x.count(2), 1);
        }
    }

    private static void liftTellsIfItWasCaught() {
        CrankTheatre x = new CrankTheatre();
        x.stop(2);
        x.turn(1);
        Check.equal("one ahead of it", x.lift(), 0);
        x.turn(1);
        Check.equal("at it", x.lift(), 1);
        Check.equal("lifted already", x.lift(), 0);
        Check.equal("not caught", x.count(2), 0);
        Check.equal("lifted", x.count(11), 1);
        x.turn(1);
        Check.equal("one behind it", x.lift(), 0);
        Check.equal("saved each time", x.count(12), 6);
        x.undo();
        Check.equal("the lift is undone", x.count(11), 0);
    }

    private static void liftLastsToTheNextStepThatIsMade() {
        CrankTheatre x = jamsAt24();
        x.turn(23);
        x.lift();
        Check.equal("no step", x.turn(60), 0);
        Check.equal("nor by work", Check.work(x, "+1"), 0);
        x.clutch(4);
        x.hand(4, 1);
        x.file(4, 0, 1);
        x.change(4, 3);
        x.set(5);
        x.remember();
        x.forget(0);
        x.stop(23);
        x.keep();
        Check.equal("lifted all the while", x.count(11), 1);
        Check.equal("not caught at the new stop", x.count(2), 0);
        Check.equal("a step by work", Check.work(x, "-1+1"), 2);
        Check.equal("not lifted", x.count(11), 0);
        Check.equal("caught", x.count(2), 1);
        Check.equal("the lift comes with the snapshot", x.goBack() + x.count(11), 1);
        Check.equal("one step", x.turn(-1), 1);
        Check.equal("is enough", x.count(11), 0);
    }

    private static void liftAtNoStopHoldsForTheNextOne() {
        CrankTheatre x = new CrankTheatre();
        x.lift();
        x.stop(0);
        Check.equal("made a stop under a lifted crank", x.count(2), 0);
        Check.equal("it goes", x.turn(1), 1);
        x.lift();
        x.stop(2);
        Check.equal("the step onto a stop ends the lift", x.turn(2), 1);
        Check.equal("caught", x.why(0), 3);
    }

    private static void everyPlaceCanBeAStop() {
        CrankTheatre x = new CrankTheatre();
        for (int place = 0; place < 60; place++) {
            Check.equal("stops", x.stop(place), place + 1);
        }
        Check.equal("all", x.count(6), 60);
        Check.equal("caught", x.lift(), 1);
        Check.equal("one step at a time", x.turn(60), 1);
        for (int place = 0; place < 60; place++) {
            Check.equal("stops", x.stop(place), 59 - place);
        }
        Check.equal("none", x.count(6), 0);
        Check.equal("one again", x.stop(0), 1);
        Check.equal("saved", x.count(12), 6);
        Check.equal("undone", x.undo() + x.count(6), 5);
    }

    private static void stopsCatchBelowZero() {
        for (int back = 1; back <= 60; back++) {
            CrankTheatre x = new CrankTheatre();
            x.stop(60 - back);
            if (back == 60) {
                x.lift();
            }
            Check.equal("back to the stop", x.turn(-60), back);
            Check.equal("count", x.count(0), -back);
            Check.equal("caught", x.count(2), 1);
        }
    }

    private static void firstReasonForward() {
        CrankTheatre x = Stage.at(9999);
        // Behind the step 10000 the tops would be 0, 4, 0, 1 and 4.
        x.file(2, 0, 9);
        x.file(3, 1, 5);
        x.file(4, 4, 9);
        x.file(0, 0, 4);
        x.stop(39);
        reasonsInTurn(x, 0, 0, 4);
    }

    private static void firstReasonBack() {
        CrankTheatre x = Stage.at(-9999);
        // Behind the step -10000 the tops would be 0, 2, 0, 8 and 8.
        x.file(2, 0, 5);
        x.file(3, 8, 9);
        x.file(4, 8, 9);
        x.file(0, 0, 0);
        x.stop(21);
        reasonsInTurn(x, 1, 0, 8);
    }

    /** All four reasons are so; one after the other is taken away. */
    private static void reasonsInTurn(CrankTheatre x, int back, int curtainTooth, int moonTooth) {
        Check.equal("1 of 1, 2, 3, 4", x.why(back), 1);
        x.file(0, curtainTooth, 5);
        Check.equal("2 of 2, 3, 4", x.why(back), 2);
        x.file(4, moonTooth, 5);
        Check.equal("2 with the moon at 5", x.why(back), 2);
        x.file(4, moonTooth, 4);
        Check.equal("3 of 3, 4", x.why(back), 3);
        x.lift();
        Check.equal("4 alone", x.why(back), 4);
        Check.equal("no step", x.turn(back == 0 ? 1 : -1), 0);
        Check.equal("the other way", x.why(1 - back), 0);
        x.file(4, moonTooth, 9);
        Check.equal("2 of 2, 4", x.why(back), 2);
        x.file(0, curtainTooth, 4);
        Check.equal("1 of 1, 2, 4", x.why(back), 1);
    }

    private static void boundOfTheCountForward() {
        CrankTheatre x = Stage.at(9998);
        Check.equal("why at 9998", x.why(0), 0);
        Check.equal("a step", x.turn(1), 1);
        Check.equal("why at 9999", x.why(0), 4);
        Check.equal("no step", x.turn(1), 0);
        Check.equal("count", x.count(0), 9999);
        Check.equal("back", x.why(1), 0);
        x.stop(39);
        Check.equal("caught is told first", x.why(0), 3);
        x.stop(39);
        x.lift();
        Check.equal("a lift does not help", x.turn(1), 0);
        Check.equal("and is not used up", x.count(11), 1);
        Check.equal("steps so far", x.count(3), 9999);
        Check.equal("a step back", x.turn(-1), 1);
        Check.equal("why at 9998", x.why(0), 0);
    }

    private static void boundOfTheCountBack() {
        CrankTheatre x = Stage.at(-9998);
        Check.equal("why at -9998", x.why(1), 0);
        Check.equal("a step", x.turn(-1), 1);
        Check.equal("why at -9999", x.why(1), 4);
        Check.equal("no step", x.turn(-1), 0);
        Check.equal("count", x.count(0), -9999);
        Check.equal("forward", x.why(0), 0);
        Check.equal("steps so far", x.count(4), 9999);
        Check.equal("a step forward", x.turn(1), 1);
        Check.equal("why at -9998", x.why(1), 0);
    }

    private static void stepsSoFar() {
        CrankTheatre x = new CrankTheatre();
        for (int wheel = 0; wheel < 5; wheel++) {
            x.clutch(wheel);
        }
        Check.equal("a crank without locked wheels turns", x.turn(7), 7);
        x.turn(-2);
        Check.equal("forward", x.count(3), 7);
        Check.equal("back", x.count(4), 2);
        Check.work(x, "(-3+1)2");
        Check.equal("forward by work, too", x.count(3), 9);
        Check.equal("back by work, too", x.count(4), 8);
        Check.equal("the count", x.count(0), 1);
        x.undo();
        Check.equal("undo takes them off", x.count(3) * 10 + x.count(4), 72);
    }

    private static void lockedWheelsFromNoneToFive() {
        CrankTheatre x = new CrankTheatre();
        for (int wheel = 0; wheel < 5; wheel++) {
            Check.equal("locked", x.count(5), 5 - wheel);
            Check.equal("loose then", x.clutch(wheel), 0);
        }
        for (int wheel = 4; wheel >= 0; wheel--) {
            Check.equal("locked", x.count(5), 4 - wheel);
            Check.equal("locked then", x.clutch(wheel), 1);
        }
        Check.equal("all", x.count(5), 5);
    }

    private static void wheelsOutAt5() {
        for (int wheel = 0; wheel < 5; wheel++) {
            CrankTheatre x = new CrankTheatre();
            int others = wheel < 2 ? 1 : 2;
            for (int height = 0; height <= 9; height++) {
                x.file(wheel, 0, height);
                Check.equal("out of five at " + height, x.count(8), others + (height < 5 ? 0 : 1));
                Check.equal("out at " + height, x.wheel(wheel, 5), height < 5 ? 0 : 1);
            }
        }
        CrankTheatre x = new CrankTheatre();
        x.set(9);
        x.file(2, 0, 5);
        x.file(3, 0, 5);
        x.file(4, 0, 5);
        Check.equal("all five", x.count(8), 5);
        CrankTheatre y = new CrankTheatre();
        y.file(0, 0, 4);
        y.file(1, 0, 4);
        Check.equal("none", y.count(8), 0);
    }
}
