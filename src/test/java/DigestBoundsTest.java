/** Promise 30, and "looks; nothing is changed" of promises 14 and 19 to 30: a method for each sentence. */
public final class DigestBoundsTest {
    private static final int[] NEW_THEATRE = {
        0, 0, 0, 0, 0, 5, 0, 0, 2, 4, 0, 0, 0,
        4, 0, 0, 9, 1, 1, 4, 9, 9, 9, 9,
        6, 0, 0, 9, 1, 1, 6, 9, 9, 9, 9, 9, 9,
        8, 0, 0, 0, 1, 0, 0, 0, 0, 0, 0, 0, 0, 0, 0,
        9, 0, 0, 0, 1, 0, 0, 0, 0, 0, 0, 0, 0, 0, 0, 0,
        12, 0, 0, 0, 1, 0, 3, 0, 1, 2, 3, 4, 5, 6, 5, 4, 3, 2, 1,
    };
    private static final int[] NEW_THEATRE_WOULD_BE = {0, 0, 72, 72, -1, -1, -1, -1, 9, 9, 0, 0, 5};

    public static void main(String[] args) {
        digestOfANewTheatreByItsNumbers();
        digestOfNoSceneToSix();
        digestOfNoStopToSixty();
        digestOfTheBufferFromEmptyToFull();
        digestWithAndWithoutASnapshot();
        digestOfEachShare();
        digestOfEachMean();
        digestOfNumbersBelowZero();
        looksChangeNothing();
        looksAreTheSameWhenAskedAgain();
        Check.end();
    }

    private static void digestOfANewTheatreByItsNumbers() {
        long hash = Digests.mix(3847, NEW_THEATRE);
        hash = Digests.mix(hash, new int[60]);
        hash = Digests.mix(hash, NEW_THEATRE_WOULD_BE);
        hash = Digests.bits(hash, 1.0, 3.6f);
        Check.equal("digest of a new theatre", new CrankTheatre().digest(), Digests.mix(hash, 0, 0));
    }

    private static void digestOfNoSceneToSix() {
        for (int scenes = 0; scenes <= 6; scenes++) {
            CrankTheatre x = new CrankTheatre();
            for (int scene = 0; scene < scenes; scene++) {
                x.remember();
                x.turn(1);
            }
            Digests.check(scenes + " scenes", x, new boolean[60], false, "");
            if (scenes > 2) {
                x.forget(2);
                Digests.check("one is forgotten", x, new boolean[60], false, "");
            }
        }
    }

    private static void digestOfNoStopToSixty() {
        for (int stops = 0; stops <= 60; stops++) {
            CrankTheatre x = new CrankTheatre();
            boolean[] due = new boolean[60];
            for (int stop = 0; stop < stops; stop++) {
                x.stop(59 - stop);
                due[59 - stop] = true;
            }
            Digests.check(stops + " stops", x, due, false, "");
            if (stops > 0) {
                x.stop(59);
                due[59] = false;
                Digests.check("the last place is none", x, due, false, "");
            }
        }
    }

    private static void digestOfTheBufferFromEmptyToFull() {
        for (int length = 0; length <= 60; length++) {
            CrankTheatre x = new CrankTheatre();
            StringBuilder buffer = new StringBuilder();
            for (int at = 0; at < length; at++) {
                x.append(126 - at);
                buffer.append((char) (126 - at));
            }
            Digests.check(length + " characters", x, new boolean[60], false, buffer.toString());
            x.clearBuffer();
            Digests.check("cleared", x, new boolean[60], false, "");
        }
        CrankTheatre x = new CrankTheatre();
        x.append(33);
        Digests.check("the least code, alone", x, new boolean[60], false, "!");
        CrankTheatre y = new CrankTheatre();
        Check.type(y, "k1");
        y.work();
        Digests.check("worked off", y, new boolean[60], false, "");
    }

    private static void digestWithAndWithoutASnapshot() {
        CrankTheatre x = new CrankTheatre();
        x.turn(1);
        long before = x.digest();
        x.keep();
        Digests.check("a snapshot", x, new boolean[60], true, "");
        Check.equal("it tells by 31", x.digest() - before, 31);
        x.goBack();
        Digests.check("and gone back", x, new boolean[60], true, "");
        x.undo();
        x.undo();
        Digests.check("and undone", x, new boolean[60], true, "");
    }

    /** Shares of many sizes: from 1 of 12 to all of each round of one wheel. */
    private static void digestOfEachShare() {
        for (int teeth = 2; teeth <= 12; teeth++) {
            for (int high = 0; high < teeth; high++) {
                CrankTheatre x = new CrankTheatre();
                for (int wheel = 0; wheel < 4; wheel++) {
                    x.clutch(wheel);
                }
                x.change(4, teeth);
                x.file(2, 0, 9);
                x.file(3, 0, 9);
                for (int tooth = 1; tooth <= high; tooth++) {
                    x.file(4, tooth, 9);
                }
                Check.equalShare("share", x.allowedShare(), (double) (teeth - high) / teeth);
                Digests.check("share of " + teeth, x, new boolean[60], false, "");
            }
        }
    }

    private static void digestOfEachMean() {
        for (int sum = 0; sum <= 45; sum++) {
            CrankTheatre x = new CrankTheatre();
            x.set(9);
            for (int wheel = 0; wheel < 5; wheel++) {
                x.file(wheel, 0, Math.max(0, Math.min(9, sum - 9 * wheel)));
            }
            Check.equalShare("mean", x.meanHeight(), sum / 5f);
            Digests.check("mean of " + sum, x, new boolean[60], false, "");
        }
    }

    private static void digestOfNumbersBelowZero() {
        CrankTheatre x = Stage.at(-9999);
        Digests.check("at -9999", x, new boolean[60], false, "");
        CrankTheatre y = Stage.at(9999);
        Digests.check("at 9999", y, new boolean[60], false, "");
    }

    private static void looksOf(String what, Check.Maker maker) {
        for (int wheel = 0; wheel < 5; wheel++) {
            int number = wheel;
            for (int of = 0; of <= 6; of++) {
                int told = of;
                Check.onlyLooks(what + "wheel", maker, x -> x.wheel(number, told));
            }
            Check.onlyLooks(what + "tooth", maker, x -> x.tooth(number, 1));
            Check.onlyLooks(what + "ahead", maker, x -> x.ahead(-9999, number));
            Check.onlyLooks(what + "ahead", maker, x -> x.ahead(9999, number));
        }
        for (int of = 0; of <= 12; of++) {
            int told = of;
            Check.onlyLooks(what + "count", maker, x -> x.count(told));
        }
        for (int either = 0; either < 2; either++) {
            int way = either;
            Check.onlyLooks(what + "why", maker, x -> x.why(way));
            Check.onlyLooks(what + "round", maker, x -> x.round(way));
            Check.onlyLooks(what + "jamsIn", maker, x -> x.jamsIn(way));
            Check.onlyLooks(what + "frees", maker, x -> x.frees(way));
        }
        Check.onlyLooks(what + "allowedShare", maker, x -> (long) x.allowedShare());
        Check.onlyLooks(what + "meanHeight", maker, x -> (long) x.meanHeight());
        Check.onlyLooks(what + "digest", maker, CrankTheatre::digest);
        Check.onlyLooks(what + "firstError", maker, CrankTheatre::firstError);
    }

    private static void looksChangeNothing() {
        looksOf("new: ", CrankTheatre::new);
        looksOf("played: ", Stage::played);
        looksOf("full: ", Stage::full);
        looksOf("tight: ", Stage::tight);
        looksOf("at the bound: ", () -> Stage.at(9999));
        for (int of = 0; of <= 7; of++) {
            int told = of;
            Check.onlyLooks("scene", Stage::played, x -> x.scene(0, told));
            Check.onlyLooks("scene", Stage::full, x -> x.scene(5, told));
        }
    }

    private static void looksAreTheSameWhenAskedAgain() {
        CrankTheatre x = Stage.played();
        long digest = x.digest();
        for (int times = 0; times < 5; times++) {
            Check.equal("round", x.round(0), x.round(1));
            Check.equal("frees", x.frees(0), x.frees(0));
            Check.equal("jamsIn", x.jamsIn(1), x.jamsIn(1));
            Check.equal("scene", x.scene(0, 7), x.scene(0, 7));
            Check.equal("digest", x.digest(), digest);
        }
    }
}
