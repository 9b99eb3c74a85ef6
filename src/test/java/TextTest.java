/** Promises 12 to 15: the buffer, its errors, and the work in it. */
public final class TextTest {
    private static final Class<IllegalArgumentException> ARGUMENT = IllegalArgumentException.class;
    private static final Class<IllegalStateException> STATE = IllegalStateException.class;

    public static void main(String[] args) {
        append();
        clearBuffer();
        firstError();
        errorsAgain();
        errorsBehindEachKindOfPart();
        incompleteWork();
        work();
        workInBrackets();
        workEnds();
        workEndsByTheNumberOfSteps();
        workIsOneCall();
        longestWork();
        Check.end();
    }

    private static void append() {
        CrankTheatre x = new CrankTheatre();
        Check.equal("33", x.append(33), 1);
        Check.equal("126", x.append(126), 2);
        for (int code : new int[] {32, 127, -1, 0, Integer.MAX_VALUE, Integer.MIN_VALUE}) {
            Check.refuses("append " + code, x, ARGUMENT, () -> x.append(code));
        }
        for (int length = 3; length <= 60; length++) {
            Check.equal("length", x.append('l'), length);
        }
        Check.refuses("a 61st", x, STATE, () -> x.append('l'));
        Check.refuses("argument first", x, ARGUMENT, () -> x.append(32));
        Check.equal("not undoable", x.count(12), 0);
    }

    private static void clearBuffer() {
        CrankTheatre x = new CrankTheatre();
        Check.type(x, "+1k");
        Check.equal("length", x.clearBuffer(), 3);
        Check.equal("then empty", x.clearBuffer(), 0);
        Check.equal("from the start again", x.append('('), 1);
        Check.equal("not undoable", x.count(12), 0);
    }

    private static void error(String text, int at) {
        CrankTheatre x = new CrankTheatre();
        Check.type(x, text);
        long before = x.digest();
        Check.equal("first error of " + text, x.firstError(), at);
        Check.equal("nothing changed by it", x.digest(), before);
    }

    private static void right(String text) {
        error(text, text.length());
    }

    private static void firstError() {
        right("");
        right("+");
        right("-1");
        right("+60");
        right("+59-9k0k4l");
        right("(((l");
        right("(((l)2)9)5");
        right("(l)2(l)2(l)2(l)2");
        right("((+1)2");
        error("x", 0);
        error(")", 0);
        error("1", 0);
        error("+0", 1);
        error("+01", 1);
        error("+61", 2);
        error("+70", 2);
        error("+600", 3);
        error("+100", 3);
        error("++", 1);
        error("k5", 1);
        error("k00", 2);
        error("kl", 1);
        error("l1", 1);
        error("L", 0);
        error("(", 1);
        error("()", 1);
        error("((((", 3);
        error("(((l)2(l)2(", 11);
        error("(((l)2(l)2((", 11);
        error("(l)1", 3);
        error("(l)0", 3);
        error("(l)l", 3);
        error("(l)22", 4);
        error("(+)", 2);
        error("(k)", 2);
        error("l)", 1);
        error("(l)2)", 4);
        error("+1!", 2);
        error("!!", 0);
    }

    /** The reader begins anew each time, wherever it stood before. */
    private static void errorsAgain() {
        CrankTheatre x = new CrankTheatre();
        Check.type(x, "((l)2(+");
        Check.equal("open brackets", x.firstError(), 7);
        Check.equal("again", x.firstError(), 7);
        Check.type(x, "x");
        Check.equal("an error", x.firstError(), 7);
        Check.equal("the same error", x.firstError(), 7);
        x.clearBuffer();
        Check.type(x, "l)2");
        Check.equal("no bracket is open", x.firstError(), 1);
        x.clearBuffer();
        Check.equal("none", x.firstError(), 0);
        Check.refuses("empty work", x, ARGUMENT, x::work);
        Check.equal("work behind it", Check.work(x, "(+1)3"), 3);
        Check.equal("and again", Check.work(x, "(+1)3"), 3);
    }

    private static void errorsBehindEachKindOfPart() {
        for (String part : new String[] {"+7", "-10", "+6", "k3", "l", "(l)9"}) {
            error(part + "x", part.length());
            error(part + ")", part.length());
            right("(" + part + ")");
            right(part + "+");
            right(part + "-5");
            right(part + "k");
            right(part + "l");
            right(part + "(");
        }
        for (int code = 33; code <= 126; code++) {
            char sign = (char) code;
            error("" + sign, "+-kl(".indexOf(sign) >= 0 ? 1 : 0);
            error("+" + sign, sign >= '1' && sign <= '9' ? 2 : 1);
            error("+5" + sign, "+-kl(".indexOf(sign) >= 0 || sign >= '0' && sign <= '9' ? 3 : 2);
            error("+6" + sign, "+-kl(0".indexOf(sign) >= 0 ? 3 : 2);
            error("k" + sign, sign >= '0' && sign <= '4' ? 2 : 1);
            error("(l" + sign, "+-kl()".indexOf(sign) >= 0 ? 3 : 2);
            error("(l)" + sign, sign >= '2' && sign <= '9' ? 4 : 3);
        }
    }

    private static void incompleteWork() {
        for (String text : new String[] {"", "+", "l-", "k", "(", "(l", "(l)", "(l)2+", "((l)2", "x", "l)", "+0", "(+1)1"}) {
            CrankTheatre x = new CrankTheatre();
            x.turn(1);
            Check.type(x, text);
            Check.refuses("work " + text, x, ARGUMENT, x::work);
            Check.equal("the buffer stays", x.clearBuffer(), text.length());
        }
    }

    private static void work() {
        CrankTheatre x = new CrankTheatre();
        Check.equal("steps both ways", Check.work(x, "+60-2+5"), 67);
        Check.equal("count", x.count(0), 63);
        Check.equal("buffer cleared", x.clearBuffer(), 0);
        Check.equal("a clutch", Check.work(x, "k4+5k4+1"), 6);
        Check.equal("moon", x.wheel(4, 1), 4);
        Check.equal("locked", x.wheel(4, 4), 1);
        Check.equal("no steps", Check.work(x, "k0"), 0);
        Check.equal("loose", x.wheel(0, 4), 0);
        Check.equal("stop 0", x.count(10), 0);
        Check.equal("saved", x.count(12), 3);
        Check.equal("two figures", Check.work(x, "-12"), 12);
    }

    private static void workInBrackets() {
        CrankTheatre x = new CrankTheatre();
        Check.equal("once bracketed", Check.work(x, "(+2-1)9"), 27);
        Check.equal("count", x.count(0), 9);
        Check.equal("in one another", Check.work(x, "(+1(-1(+2)2)3)2"), 2 + 6 + 24);
        Check.equal("count", x.count(0), 9 + 2 - 6 + 24);
        Check.equal("beside one another", Check.work(x, "(+1)2((-1)3+4)2+10"), 2 + 6 + 8 + 10);
        Check.equal("clutches", Check.work(x, "(k1+1)3"), 3);
        Check.equal("loose behind three", x.wheel(1, 4), 0);
    }

    private static void workEnds() {
        CrankTheatre x = new CrankTheatre();
        x.stop(2);
        Check.equal("caught", Check.work(x, "+5k0l"), 2);
        Check.equal("by 3", x.count(10), 3);
        Check.equal("no part behind it", x.wheel(0, 4) * 10 + x.count(11), 10);
        Check.equal("caught in brackets", Check.work(x, "(((+5)2)2)2"), 0);
        Check.equal("brackets begin anew", Check.work(x, "(l+1)8"), 8);
        Check.equal("and back", Check.work(x, "(-4)2"), 8);
        Check.equal("lifted in a text", Check.work(x, "l+5-5l"), 10);
        Check.equal("by 0", x.count(10), 0);
        Check.equal("lifted still", x.count(11), 1);
        x.file(2, 3, 9);
        x.file(0, 3, 0);
        Check.equal("jammed", Check.work(x, "+1"), 0);
        Check.equal("by 1", x.count(10), 1);
        x.file(0, 3, 9);
        x.file(3, 3, 9);
        x.set(2);
        Check.equal("jammed", Check.work(x, "(k0)2(-1+3)2"), 2);
        Check.equal("by 2", x.count(10), 2);
        Check.equal("cleared", x.clearBuffer(), 0);
        x.turn(-1);
        Check.equal("the stop of the latest work", x.count(10), 2);
        Check.equal("undone", x.undo(), 5);
        Check.equal("undone", x.undo(), 4);
        Check.equal("the stop of the work before", x.count(10), 1);
    }

    private static void workEndsByTheNumberOfSteps() {
        CrankTheatre x = new CrankTheatre();
        Check.equal("2000", Check.work(x, "((+50)5)8k1l"), 2000);
        Check.equal("all done", x.count(10), 0);
        Check.equal("parts without steps are done", x.wheel(1, 4) * 10 + x.count(11), 1);
        Check.equal("2000 of 2001", Check.work(x, "((-50)5)8k1-1k2"), 2000);
        Check.equal("by 5", x.count(10), 5);
        Check.equal("the part ahead is done", x.wheel(1, 4), 1);
        Check.equal("the part behind is not", x.wheel(2, 4), 1);
        boundBehindTheSteps();
    }

    /** The 2001st step could not be made anyway: the crank is caught behind the 2000th. */
    private static void boundBehindTheSteps() {
        CrankTheatre x = new CrankTheatre();
        x.stop(20);
        x.turn(20);
        Check.equal("caught", x.count(2), 1);
        Check.equal("2000", Check.work(x, "(l+60)9(l+60)9(l+60)9(l+60)6l+20l+1"), 1980 + 20);
        Check.equal("by 5", x.count(10), 5);
        CrankTheatre y = new CrankTheatre();
        y.stop(20);
        Check.equal("1999 and one", Check.work(y, "+20(l+60)9(l+60)9(l+60)9(l+60)6+1"), 2000);
        Check.equal("caught at the stop", y.count(2), 1);
        Check.equal("5, not 3", y.count(10), 5);
    }

    private static void workIsOneCall() {
        CrankTheatre x = new CrankTheatre();
        long before = x.digest();
        Check.work(x, "(+9k2-3l)4");
        Check.equal("one saved state", x.count(12), 1);
        x.undo();
        Check.equal("all as it was", x.digest(), before);
    }

    private static void longestWork() {
        CrankTheatre x = new CrankTheatre();
        StringBuilder text = new StringBuilder("(((");
        for (int times = 0; times < 49; times++) {
            text.append('l');
        }
        Check.equal("729 times", Check.work(x, text + "k1)9)9)9"), 0);
        Check.equal("loose", x.wheel(1, 4), 0);
        Check.equal("all done", x.count(10), 0);
    }
}
