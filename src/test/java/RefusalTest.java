/**
 * "A call that throws an exception changes nothing. If several exceptions apply, the one that is named first in the
 * throws clause is thrown." Each refused call, a method for each promise; a twin that was not asked stands beside it.
 */
public final class RefusalTest {
    private static final Class<IllegalArgumentException> ARGUMENT = IllegalArgumentException.class;
    private static final Class<IndexOutOfBoundsException> INDEX = IndexOutOfBoundsException.class;
    private static final Class<IllegalStateException> STATE = IllegalStateException.class;
    private static final int LEAST = Integer.MIN_VALUE;
    private static final int GREATEST = Integer.MAX_VALUE;
    private static final int[] NO_WHEELS = {LEAST, -1, 5, GREATEST};
    private static final int[] NO_HEIGHTS = {LEAST, -1, 10, GREATEST};
    private static final int[] NO_DIRECTIONS = {LEAST, -1, 2, GREATEST};

    public static void main(String[] args) {
        promise2Turn();
        promise4Stop();
        promise5Clutch();
        promise6Hand();
        promise6HandByThePicture();
        promise7File();
        promise7FileByThePicture();
        promise8Change();
        promise9Set();
        promise10Remember();
        promise11Forget();
        promise12Append();
        promise15Work();
        promise17GoBack();
        promise18Undo();
        promises19To23Looks();
        promises24To27WhatWouldBe();
        Check.end();
    }

    /** On a new theatre, on one that is full, and on one with something of everything. */
    private static void everywhere(String what, Class<? extends RuntimeException> kind, Check.Use use) {
        Check.leavesNothing(what + " of a new theatre", CrankTheatre::new, kind, use);
        Check.leavesNothing(what + " of a played theatre", Stage::played, kind, use);
        Check.leavesNothing(what + " of a full theatre", Stage::full, kind, use);
        Check.leavesNothing(what + " of a tight theatre", Stage::tight, kind, use);
    }

    private static void promise2Turn() {
        for (int steps : new int[] {LEAST, -62, -61, 0, 61, 62, GREATEST}) {
            everywhere("turn " + steps, ARGUMENT, x -> x.turn(steps));
        }
    }

    private static void promise4Stop() {
        for (int place : new int[] {LEAST, -60, -1, 60, GREATEST}) {
            everywhere("stop " + place, INDEX, x -> x.stop(place));
        }
    }

    private static void promise5Clutch() {
        for (int wheel : NO_WHEELS) {
            everywhere("clutch " + wheel, INDEX, x -> x.clutch(wheel));
        }
    }

    private static void promise6Hand() {
        for (int teeth : new int[] {LEAST, -1, 0, 12, GREATEST}) {
            for (int wheel = 0; wheel < 5; wheel++) {
                int number = wheel;
                Check.leavesNothing("hand by " + teeth, Stage::tight, ARGUMENT, x -> x.hand(number, teeth));
                Check.leavesNothing("hand: argument before state", CrankTheatre::new, ARGUMENT, x -> x.hand(number, teeth));
            }
        }
        for (int wheel : NO_WHEELS) {
            everywhere("hand of " + wheel, INDEX, x -> x.hand(wheel, 1));
            everywhere("hand of " + wheel + ": index first", INDEX, x -> x.hand(wheel, 0));
        }
        for (int wheel = 0; wheel < 5; wheel++) {
            int number = wheel;
            Check.leavesNothing("hand of a locked wheel", CrankTheatre::new, STATE, x -> x.hand(number, 1));
            Check.leavesNothing("hand of a locked wheel", CrankTheatre::new, STATE, x -> x.hand(number, 11));
        }
    }

    private static void promise6HandByThePicture() {
        for (int teeth = 1; teeth <= 11; teeth++) {
            int by = teeth;
            if (teeth % 4 == 1) {
                Check.leavesNothing("a curtain in, by " + by, Stage::tight, STATE, x -> x.hand(0, by));
            }
            if (teeth % 6 == 1) {
                Check.leavesNothing("the other curtain in, by " + by, Stage::tight, STATE, x -> x.hand(1, by));
            }
            if (teeth % 8 == 1) {
                Check.leavesNothing("a trap out, by " + by, RefusalTest::curtainIn, STATE, x -> x.hand(2, by));
            }
            if (teeth % 9 == 1) {
                Check.leavesNothing("the other trap out, by " + by, RefusalTest::moonHigh, STATE, x -> x.hand(3, by));
            }
        }
        Check.leavesNothing("the moon to 5", Stage::tight, STATE, x -> x.hand(4, 1));
        Check.leavesNothing("the moon to 5, far", Stage::tight, STATE, x -> x.hand(4, 3));
    }

    private static void promise7File() {
        int[] teeth = {4, 6, 8, 9, 12};
        for (int wheel = 0; wheel < 5; wheel++) {
            int number = wheel;
            for (int tooth : new int[] {LEAST, -1, teeth[wheel], GREATEST}) {
                Check.leavesNothing("file tooth " + tooth, CrankTheatre::new, INDEX, x -> x.file(number, tooth, 0));
                Check.leavesNothing("file: index first", Stage::full, INDEX, x -> x.file(number, tooth, 10));
            }
            for (int height : NO_HEIGHTS) {
                everywhere("file to " + height, ARGUMENT, x -> x.file(number, 0, height));
            }
        }
        for (int wheel : NO_WHEELS) {
            everywhere("file of " + wheel, INDEX, x -> x.file(wheel, 0, 0));
        }
        Check.leavesNothing("a tooth that the wheel had", Stage::played, INDEX, x -> x.file(4, 7, 0));
    }

    private static void promise7FileByThePicture() {
        Check.leavesNothing("a curtain in", Stage::tight, STATE, x -> x.file(0, 0, 4));
        Check.leavesNothing("the other curtain in", Stage::tight, STATE, x -> x.file(1, 4, 4));
        Check.leavesNothing("a curtain far in", Stage::tight, STATE, x -> x.file(1, 4, 0));
        Check.leavesNothing("the moon above", Stage::tight, STATE, x -> x.file(4, 4, 5));
        Check.leavesNothing("the moon far above", Stage::tight, STATE, x -> x.file(4, 4, 9));
        Check.leavesNothing("file: argument before state", Stage::tight, ARGUMENT, x -> x.file(0, 0, -1));
        Check.leavesNothing("file: argument before state", Stage::tight, ARGUMENT, x -> x.file(4, 4, 10));
        Check.leavesNothing("a trap out under a curtain that is in", RefusalTest::curtainIn, STATE, x -> x.file(2, 0, 5));
        Check.leavesNothing("the other trap, too", RefusalTest::curtainIn, STATE, x -> x.file(3, 0, 9));
        Check.leavesNothing("both traps under a high moon", RefusalTest::moonHigh, STATE, x -> x.file(3, 0, 5));
    }

    private static CrankTheatre curtainIn() {
        CrankTheatre x = new CrankTheatre();
        x.file(1, 0, 4);
        x.file(2, 1, 5);
        x.clutch(2);
        return x;
    }

    private static CrankTheatre moonHigh() {
        CrankTheatre x = new CrankTheatre();
        x.file(2, 0, 5);
        x.file(4, 0, 5);
        x.file(3, 1, 5);
        x.clutch(3);
        return x;
    }

    private static void promise8Change() {
        for (int wheel : NO_WHEELS) {
            everywhere("change of " + wheel, INDEX, x -> x.change(wheel, 2));
            everywhere("change of " + wheel + ": index first", INDEX, x -> x.change(wheel, 1));
        }
        for (int teeth : new int[] {LEAST, -1, 0, 1, 13, GREATEST}) {
            for (int wheel = 0; wheel < 5; wheel++) {
                int number = wheel;
                everywhere("change to " + teeth, ARGUMENT, x -> x.change(number, teeth));
            }
        }
    }

    private static void promise9Set() {
        for (int height : NO_HEIGHTS) {
            everywhere("set " + height, ARGUMENT, x -> x.set(height));
        }
        for (int height = 0; height < 4; height++) {
            int below = height;
            Check.leavesNothing("set below the moon", Stage::tight, STATE, x -> x.set(below));
        }
    }

    private static void promise10Remember() {
        Check.leavesNothing("a seventh scene", Stage::full, STATE, CrankTheatre::remember);
    }

    private static void promise11Forget() {
        for (int scene : new int[] {LEAST, -1, 6, GREATEST}) {
            everywhere("forget " + scene, INDEX, x -> x.forget(scene));
        }
        Check.leavesNothing("forget with none", CrankTheatre::new, INDEX, x -> x.forget(0));
        Check.leavesNothing("forget a third of two", Stage::played, INDEX, x -> x.forget(2));
    }

    private static void promise12Append() {
        for (int code : new int[] {LEAST, -1, 0, 31, 32, 127, 128, 65536 + 33, GREATEST}) {
            everywhere("append " + code, ARGUMENT, x -> x.append(code));
        }
        Check.leavesNothing("a 61st character", Stage::full, STATE, x -> x.append('l'));
        Check.leavesNothing("a 61st character at the least", Stage::full, STATE, x -> x.append(33));
        Check.leavesNothing("a 61st character at the greatest", Stage::full, STATE, x -> x.append(126));
    }

    private static void promise15Work() {
        Check.leavesNothing("empty work", CrankTheatre::new, ARGUMENT, CrankTheatre::work);
        Check.leavesNothing("empty work", Stage::tight, ARGUMENT, CrankTheatre::work);
        for (String text : new String[] {"+", "k", "(", "(l", "(l)", "l)", "x", "+1(", "+61", "l+0", "(l)1", "((((l)2)2)2)2"}) {
            Check.leavesNothing("work of " + text, () -> {
                CrankTheatre x = Stage.tight();
                Check.type(x, text);
                return x;
            }, ARGUMENT, CrankTheatre::work);
        }
        Check.leavesNothing("60 characters, the last one wrong", () -> {
            CrankTheatre x = new CrankTheatre();
            Check.type(x, "l".repeat(59) + "x");
            return x;
        }, ARGUMENT, CrankTheatre::work);
    }

    private static void promise17GoBack() {
        Check.leavesNothing("no snapshot", CrankTheatre::new, STATE, CrankTheatre::goBack);
        Check.leavesNothing("no snapshot", () -> Stage.at(9), STATE, CrankTheatre::goBack);
    }

    private static void promise18Undo() {
        Check.leavesNothing("no saved state", CrankTheatre::new, STATE, CrankTheatre::undo);
        Check.leavesNothing("no saved state any more", () -> {
            CrankTheatre x = Stage.full();
            for (int saved = 6; saved > 0; saved--) {
                x.undo();
            }
            return x;
        }, STATE, CrankTheatre::undo);
    }

    private static void promises19To23Looks() {
        for (int wheel : NO_WHEELS) {
            everywhere("wheel " + wheel, INDEX, x -> x.wheel(wheel, 0));
            everywhere("wheel " + wheel + ": index first", INDEX, x -> x.wheel(wheel, 7));
            everywhere("tooth of " + wheel, INDEX, x -> x.tooth(wheel, 0));
        }
        for (int what : new int[] {LEAST, -1, 7, GREATEST}) {
            everywhere("wheel's " + what, ARGUMENT, x -> x.wheel(4, what));
        }
        for (int tooth : new int[] {LEAST, -1, 12, GREATEST}) {
            everywhere("tooth " + tooth, INDEX, x -> x.tooth(4, tooth));
        }
        for (int scene : new int[] {LEAST, -1, 6, GREATEST}) {
            everywhere("scene " + scene, INDEX, x -> x.scene(scene, 0));
            everywhere("scene " + scene + ": index first", INDEX, x -> x.scene(scene, 8));
        }
        for (int what : new int[] {LEAST, -1, 8, GREATEST}) {
            Check.leavesNothing("scene's " + what, Stage::played, ARGUMENT, x -> x.scene(1, what));
            Check.leavesNothing("scene's " + what, Stage::full, ARGUMENT, x -> x.scene(5, what));
        }
        for (int what : new int[] {LEAST, -1, 13, GREATEST}) {
            everywhere("count " + what, ARGUMENT, x -> x.count(what));
        }
        for (int back : NO_DIRECTIONS) {
            everywhere("why " + back, ARGUMENT, x -> x.why(back));
        }
    }

    private static void promises24To27WhatWouldBe() {
        for (int number : NO_DIRECTIONS) {
            everywhere("round " + number, ARGUMENT, x -> x.round(number));
            everywhere("jamsIn " + number, ARGUMENT, x -> x.jamsIn(number));
            everywhere("frees " + number, ARGUMENT, x -> x.frees(number));
        }
        for (int wheel : NO_WHEELS) {
            everywhere("ahead of " + wheel, INDEX, x -> x.ahead(0, wheel));
            everywhere("ahead of " + wheel + ": index first", INDEX, x -> x.ahead(10000, wheel));
        }
        for (int steps : new int[] {LEAST, -10000, 10000, GREATEST}) {
            everywhere("ahead " + steps, ARGUMENT, x -> x.ahead(steps, 4));
        }
    }
}
