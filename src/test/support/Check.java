/** What the tests share: wrong answers are printed and counted, and end the test with exit code 1. */
final class Check {
    private static int wrong = 0;

    interface Call {
        long make();
    }

    interface Maker {
        CrankTheatre make();
    }

    interface Use {
        long on(CrankTheatre theatre);
    }

    private Check() {
    }

    static void equal(String what, long got, long want) {
        if (got != want) {
            tell(what + " answered " + got + ", due is " + want);
        }
    }

    static void equalShare(String what, double got, double want) {
        if (Double.doubleToLongBits(got) != Double.doubleToLongBits(want)) {
            tell(what + " answered " + got + ", due is " + want);
        }
    }

    /** The call throws just this exception, and changes nothing that can be seen. */
    static void refuses(String what, CrankTheatre theatre, Class<? extends RuntimeException> kind, Call call) {
        long before = theatre.digest();
        Class<?> thrown = null;
        try {
            call.make();
        } catch (RuntimeException e) {
            thrown = e.getClass();
        }
        if (thrown != kind) {
            tell(what + " threw " + thrown + ", due is " + kind);
        }
        equal("digest() behind " + what, theatre.digest(), before);
    }

    /** The call is refused, and behind it the theatre answers as a twin that was not asked. */
    static void leavesNothing(String what, Maker maker, Class<? extends RuntimeException> kind, Use use) {
        CrankTheatre asked = maker.make();
        refuses(what, asked, kind, () -> use.on(asked));
        sameAs(what, asked, maker.make());
    }

    /** The call is answered, and behind it the theatre answers as a twin that was not asked. */
    static void onlyLooks(String what, Maker maker, Use use) {
        CrankTheatre asked = maker.make();
        use.on(asked);
        sameAs(what, asked, maker.make());
    }

    /** All that can be told of the two is the same: their states, texts, saved states and snapshots. Uses them up. */
    static void sameAs(String what, CrankTheatre x, CrankTheatre y) {
        equal("digest() behind " + what, x.digest(), y.digest());
        equal("firstError() behind " + what, x.firstError(), y.firstError());
        for (int saved = Math.min(x.count(12), y.count(12)); saved > 0; saved--) {
            x.undo();
            y.undo();
            equal("digest() behind " + what + " and undo() to " + (saved - 1), x.digest(), y.digest());
        }
        equal("goBack() behind " + what, answerOf(x::goBack), answerOf(y::goBack));
        equal("digest() behind " + what + " and goBack()", x.digest(), y.digest());
        equal("turn() behind " + what, x.turn(9), y.turn(9));
        equal("digest() behind " + what + " and turn()", x.digest(), y.digest());
    }

    private static long answerOf(Call call) {
        try {
            return call.make();
        } catch (IllegalStateException e) {
            return Long.MIN_VALUE;
        }
    }

    static void tell(String fault) {
        wrong++;
        System.out.println(fault);
    }

    static void end() {
        System.out.println(wrong == 0 ? "all answers are as due" : wrong + " answers are not as due");
        if (wrong != 0) {
            System.exit(1);
        }
    }

    static void type(CrankTheatre theatre, String characters) {
        for (int at = 0; at < characters.length(); at++) {
            theatre.append(characters.charAt(at));
        }
    }

    /** Work with this text alone in the buffer. */
    static int work(CrankTheatre theatre, String characters) {
        theatre.clearBuffer();
        type(theatre, characters);
        return theatre.work();
    }
}
