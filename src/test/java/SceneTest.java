/** Promises 10, 11 and 21: scenes. */
public final class SceneTest {
    private static final Class<IllegalArgumentException> ARGUMENT = IllegalArgumentException.class;
    private static final Class<IndexOutOfBoundsException> INDEX = IndexOutOfBoundsException.class;
    private static final Class<IllegalStateException> STATE = IllegalStateException.class;

    public static void main(String[] args) {
        remember();
        forget();
        heightsOfAScene();
        allowedByTheSettingOfNow();
        stepsToAScene();
        wrongInputs();
        Check.end();
    }

    private static void remember() {
        CrankTheatre x = new CrankTheatre();
        for (int scene = 0; scene < 6; scene++) {
            Check.equal("number, also of the same picture", x.remember(), scene);
        }
        Check.equal("saved", x.count(12), 6);
        Check.refuses("a seventh", x, STATE, x::remember);
        x.forget(5);
        Check.equal("room again", x.remember(), 5);
    }

    private static void forget() {
        CrankTheatre x = new CrankTheatre();
        for (int scene = 0; scene < 6; scene++) {
            x.remember();
            x.turn(1);
        }
        Check.equal("5 left", x.forget(2), 5);
        int[] moons = {0, 1, 3, 4, 5};
        for (int scene = 0; scene < 5; scene++) {
            Check.equal("moon of " + scene, x.scene(scene, 4), moons[scene]);
        }
        Check.equal("4 left", x.forget(4), 4);
        Check.equal("3 left", x.forget(0), 3);
        Check.equal("the first one", x.scene(0, 4), 1);
        Check.equal("the last one", x.scene(2, 4), 4);
        Check.refuses("beyond", x, INDEX, () -> x.forget(3));
        Check.equal("undo", x.undo(), 5);
        Check.equal("the first one again", x.scene(0, 4), 0);
    }

    private static void heightsOfAScene() {
        CrankTheatre x = new CrankTheatre();
        x.file(0, 0, 5);
        x.file(1, 0, 6);
        x.file(2, 0, 7);
        x.file(3, 0, 8);
        x.file(4, 0, 3);
        x.remember();
        int[] heights = {5, 6, 7, 8, 3};
        for (int wheel = 0; wheel < 5; wheel++) {
            Check.equal("height " + wheel, x.scene(0, wheel), heights[wheel]);
        }
        Check.equal("as it", x.scene(0, 5), 1);
        x.file(4, 0, 2);
        Check.equal("not as it", x.scene(0, 5), 0);
        Check.equal("the scene stays", x.scene(0, 4), 3);
        x.file(4, 1, 3);
        x.clutch(0);
        x.clutch(1);
        x.clutch(2);
        x.clutch(3);
        Check.equal("by another tooth", x.scene(0, 7), 1);
    }

    private static void allowedByTheSettingOfNow() {
        CrankTheatre x = new CrankTheatre();
        x.file(2, 0, 5);
        x.file(3, 0, 5);
        x.file(4, 0, 4);
        x.remember();
        Check.equal("allowed", x.scene(0, 6), 1);
        x.turn(1);
        x.set(3);
        Check.equal("not by 3", x.scene(0, 6), 0);
        Check.equal("still 71 steps away", x.scene(0, 7), 71);
        x.set(4);
        Check.equal("by 4", x.scene(0, 6), 1);
    }

    private static void stepsToAScene() {
        CrankTheatre x = new CrankTheatre();
        x.remember();
        Check.equal("none", x.scene(0, 7), 0);
        x.turn(1);
        Check.equal("the moon's round", x.scene(0, 7), 11);
        x.file(3, 5, 1);
        x.turn(4);
        Check.equal("past the filed tooth", x.scene(0, 7), 7);
        x.stop(5);
        Check.equal("stops do not matter", x.scene(0, 7), 7);
        x.clutch(4);
        Check.equal("never with a loose moon", x.scene(0, 7), -1);
        x.hand(4, 7);
        Check.equal("one step to the trap's next tooth", x.scene(0, 7), 1);
        for (int wheel = 0; wheel < 4; wheel++) {
            x.clutch(wheel);
        }
        Check.equal("never without locked wheels", x.scene(0, 7), -1);
        x.remember();
        Check.equal("now without locked wheels", x.scene(1, 7), 0);
    }

    private static void wrongInputs() {
        CrankTheatre x = new CrankTheatre();
        Check.refuses("forget without scenes", x, INDEX, () -> x.forget(0));
        Check.refuses("scene without scenes", x, INDEX, () -> x.scene(0, 0));
        x.remember();
        for (int far : new int[] {-1, 1, 6, Integer.MAX_VALUE, Integer.MIN_VALUE}) {
            Check.refuses("forget " + far, x, INDEX, () -> x.forget(far));
            Check.refuses("scene " + far, x, INDEX, () -> x.scene(far, 0));
            Check.refuses("scene " + far + ", index first", x, INDEX, () -> x.scene(far, 8));
        }
        for (int far : new int[] {-1, 8, Integer.MAX_VALUE, Integer.MIN_VALUE}) {
            Check.refuses("what " + far, x, ARGUMENT, () -> x.scene(0, far));
        }
    }
}
