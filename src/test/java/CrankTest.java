/** Promises 1 to 4, 22 and 23: the new theatre, the crank, count, why. */
public final class CrankTest {
    private static final Class<IllegalArgumentException> ARGUMENT = IllegalArgumentException.class;
    private static final Class<IndexOutOfBoundsException> INDEX = IndexOutOfBoundsException.class;

    public static void main(String[] args) {
        newTheatre();
        turn();
        turnEndsAheadOfAPicture();
        lift();
        liftLastsToTheNextStep();
        stop();
        placesBelowZero();
        boundsOfTheCount();
        orderOfReasons();
        count();
        wrongInputs();
        Check.end();
    }

    private static void newTheatre() {
        CrankTheatre x = new CrankTheatre();
        int[] teeth = {4, 6, 8, 9, 12};
        int[] moon = {0, 1, 2, 3, 4, 5, 6, 5, 4, 3, 2, 1};
        for (int wheel = 0; wheel < 5; wheel++) {
            Check.equal("teeth of " + wheel, x.wheel(wheel, 0), teeth[wheel]);
            Check.equal("top of " + wheel, x.wheel(wheel, 1), 0);
            Check.equal("locked " + wheel, x.wheel(wheel, 4), 1);
            for (int tooth = 0; tooth < teeth[wheel]; tooth++) {
                int height = wheel == 4 ? moon[tooth] : wheel < 2 ? 9 : 0;
                Check.equal("height " + wheel + " " + tooth, x.tooth(wheel, tooth), height);
            }
        }
        int[] counts = {0, 0, 0, 0, 0, 5, 0, 0, 2, 4, 0, 0, 0};
        for (int what = 0; what < counts.length; what++) {
            Check.equal("count " + what, x.count(what), counts[what]);
        }
        Check.equal("empty buffer", x.clearBuffer(), 0);
        Check.refuses("no snapshot", x, IllegalStateException.class, x::goBack);
        Check.refuses("no saved state", x, IllegalStateException.class, x::undo);
        Check.equal("NONE", CrankTheatre.NONE, -1);
    }

    private static void turn() {
        CrankTheatre x = new CrankTheatre();
        Check.equal("60 forward", x.turn(60), 60);
        Check.equal("count", x.count(0), 60);
        Check.equal("place", x.count(1), 0);
        Check.equal("60 back", x.turn(-60), 60);
        Check.equal("1 back", x.turn(-1), 1);
        Check.equal("moon one back", x.wheel(4, 1), 11);
        Check.equal("curtain one back", x.wheel(0, 1), 3);
        Check.equal("steps forward", x.count(3), 60);
        Check.equal("steps back", x.count(4), 61);
        x.clutch(4);
        Check.equal("2 forward", x.turn(2), 2);
        Check.equal("loose moon stays", x.wheel(4, 1), 11);
        Check.equal("curtain turns", x.wheel(0, 1), 1);
        Check.equal("saved", x.count(12), 5);
    }

    private static void turnEndsAheadOfAPicture() {
        CrankTheatre x = new CrankTheatre();
        x.file(2, 2, 5);
        x.file(1, 2, 4);
        Check.equal("one step", x.turn(9), 1);
        Check.equal("why", x.why(0), 1);
        Check.equal("no step", x.turn(1), 0);
        Check.equal("saved, too", x.count(12), 4);
        Check.equal("back still", x.turn(-1), 1);
        Check.equal("all as it was", x.count(0), 0);
    }

    private static void lift() {
        CrankTheatre x = new CrankTheatre();
        Check.equal("not caught", x.lift(), 0);
        Check.equal("lifted", x.count(11), 1);
        x.stop(0);
        Check.equal("lifted at a new stop", x.count(2), 0);
        x.undo();
        x.undo();
        x.stop(0);
        Check.equal("caught", x.count(2), 1);
        Check.equal("was caught", x.lift(), 1);
        Check.equal("not caught when lifted", x.lift(), 0);
        Check.equal("saved", x.count(12), 3);
    }

    private static void liftLastsToTheNextStep() {
        CrankTheatre x = new CrankTheatre();
        x.lift();
        x.stop(1);
        Check.equal("one step, then caught", x.turn(5), 1);
        Check.equal("the lift is over", x.count(11), 0);
        x.lift();
        x.file(2, 2, 5);
        x.file(0, 2, 0);
        Check.equal("jammed", x.turn(1), 0);
        Check.equal("the lift lasts", x.count(11), 1);
        Check.equal("back", x.turn(-3), 3);
        Check.equal("over", x.count(11), 0);
    }

    private static void stop() {
        CrankTheatre x = new CrankTheatre();
        Check.equal("one stop", x.stop(59), 1);
        Check.equal("two stops", x.stop(0), 2);
        Check.equal("caught at 0", x.turn(1), 0);
        Check.equal("why", x.why(1), 3);
        Check.equal("stop gone", x.stop(0), 1);
        Check.equal("free", x.turn(1), 1);
        Check.equal("stop of 59 behind 60 forward", x.turn(60), 58);
        Check.equal("count of stops", x.count(6), 1);
    }

    private static void placesBelowZero() {
        CrankTheatre x = new CrankTheatre();
        x.turn(-1);
        Check.equal("place of -1", x.count(1), 59);
        x.turn(-59);
        Check.equal("place of -60", x.count(1), 0);
        Check.equal("count", x.count(0), -60);
        x.stop(58);
        Check.equal("caught at -62", x.turn(-9), 2);
    }

    private static void boundsOfTheCount() {
        CrankTheatre x = new CrankTheatre();
        CrankTheatre y = new CrankTheatre();
        for (int times = 0; times < 166; times++) {
            x.turn(60);
            y.turn(-60);
        }
        Check.equal("to 9999", x.turn(60), 39);
        Check.equal("count", x.count(0), 9999);
        Check.equal("why forward", x.why(0), 4);
        Check.equal("why back", x.why(1), 0);
        Check.equal("frees", x.frees(0), -1);
        Check.equal("to -9999", y.turn(-60), 39);
        Check.equal("count", y.count(0), -9999);
        Check.equal("place", y.count(1), 21);
        Check.equal("why back", y.why(1), 4);
        Check.equal("why forward", y.why(0), 0);
        x.stop(39);
        Check.equal("caught is first", x.why(0), 3);
        Check.equal("one back", y.turn(1), 1);
    }

    private static void orderOfReasons() {
        CrankTheatre x = new CrankTheatre();
        x.file(2, 1, 9);
        x.file(3, 1, 5);
        x.set(0);
        Check.equal("moon at 1 is above 0", x.why(0), 2);
        x.stop(0);
        Check.equal("2 is ahead of 3", x.why(0), 2);
        x.file(1, 1, 4);
        Check.equal("1 is ahead of 2", x.why(0), 1);
        Check.equal("3 back", x.why(1), 3);
        x.file(1, 1, 5);
        x.set(1);
        Check.equal("moon not above", x.why(0), 3);
        x.lift();
        Check.equal("lifted", x.why(0), 0);
        x.file(2, 1, 4);
        x.set(0);
        Check.equal("one trap alone", x.why(0), 0);
    }

    private static void count() {
        CrankTheatre x = new CrankTheatre();
        x.clutch(1);
        x.clutch(3);
        Check.equal("locked", x.count(5), 3);
        x.file(2, 0, 5);
        x.turn(5);
        Check.equal("out: curtains, moon", x.count(8), 3);
        x.turn(2);
        Check.equal("out: curtains, moon at 5", x.count(8), 3);
        x.turn(1);
        Check.equal("out: curtains, trap, moon at 4", x.count(8), 3);
        x.turn(-3);
        x.remember();
        x.remember();
        Check.equal("scenes", x.count(7), 2);
        x.set(7);
        Check.equal("setting", x.count(9), 7);
        Check.equal("saved at most", x.count(12), 6);
        Check.work(x, "-2l");
        Check.equal("forward", x.count(3), 8);
        Check.equal("back", x.count(4), 5);
        Check.equal("lifted", x.count(11), 1);
        Check.equal("all done", x.count(10), 0);
    }

    private static void wrongInputs() {
        CrankTheatre x = new CrankTheatre();
        x.turn(3);
        for (int steps : new int[] {0, 61, -61, Integer.MAX_VALUE, Integer.MIN_VALUE}) {
            Check.refuses("turn " + steps, x, ARGUMENT, () -> x.turn(steps));
        }
        for (int place : new int[] {-1, 60, Integer.MAX_VALUE, Integer.MIN_VALUE}) {
            Check.refuses("stop " + place, x, INDEX, () -> x.stop(place));
        }
        for (int what : new int[] {-1, 13, Integer.MAX_VALUE, Integer.MIN_VALUE}) {
            Check.refuses("count " + what, x, ARGUMENT, () -> x.count(what));
            Check.refuses("why " + what, x, ARGUMENT, () -> x.why(what));
        }
        Check.refuses("why 2", x, ARGUMENT, () -> x.why(2));
    }
}
