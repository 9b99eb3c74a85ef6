/** What the tests share: wrong answers are printed and counted, and end the test with exit code 1. */
final class Check {
    private static int wrong = 0;

    interface Call {
        long make();
    }

    private Check() {
    }

    static void equal(String what, long got, long want) {
        if (got != want) {
            tell(what + " answered " + got + ", due is " + want);
        }
    }

    static void equalShare(String what, double got, double want) {
        if (Double.doubleToLongBits(got) != Double.doubleToLongBits(want)) {
            tell(what + " answered " + got + ", due is " + want);
        }
    }

    /** The call throws just this exception, and changes nothing that can be seen. */
    static void refuses(String what, CrankTheatre theatre, Class<? extends RuntimeException> kind, Call call) {
        long before = theatre.digest();
        Class<?> thrown = null;
        try {
            call.make();
        } catch (RuntimeException e) {
            thrown = e.getClass();
        }
        if (thrown != kind) {
            tell(what + " threw " + thrown + ", due is " + kind);
        }
        equal("digest() behind " + what, theatre.digest(), before);
    }

    static void tell(String fault) {
        wrong++;
        System.out.println(fault);
    }

    static void end() {
        System.out.println(wrong == 0 ? "all answers are as due" : wrong + " answers are not as due");
        if (wrong != 0) {
            System.exit(1);
        }
    }

    static void type(CrankTheatre theatre, String characters) {
        for (int at = 0; at < characters.length(); at++) {
            theatre.append(characters.charAt(at));
        }
    }

    /** Work with this text alone in the buffer. */
    static int work(CrankTheatre theatre, String characters) {
        theatre.clearBuffer();
        type(theatre, characters);
        return theatre.work();
    }
}
