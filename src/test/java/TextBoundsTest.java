/** Promises 12 to 15, and the term of the input text: a method for each sentence that names a bound. */
public final class TextBoundsTest {
    private static final Class<IllegalArgumentException> ARGUMENT = IllegalArgumentException.class;
    private static final Class<IllegalStateException> STATE = IllegalStateException.class;
    private static final String TO_2000 = "((+50)5)8";
    private static final String TO_1999 = "((+50)3)9(+50)6(+50)6+49";
    private static final String TO_1980 = "((+10-10)9)9(+10-10)9(+10-10)9";

    public static void main(String[] args) {
        appendTakesCodes33To126();
        appendTakes60Characters();
        clearBufferFromEmptyToFull();
        stepsFrom1To60WithoutLeadingZeros();
        wheelsFrom0To4();
        timesFrom2To9();
        threeBracketsAtATime();
        bracketsHoldOneOrMoreParts();
        nothingBetweenParts();
        firstErrorOfAnEmptyBuffer();
        firstErrorFromTheFirstCharacterToTheLast();
        firstErrorIsTheFirstOfMany();
        firstErrorMindsNoLength();
        workWantsCompleteText();
        workOfTheLongestText();
        workClearsTheBuffer();
        workMakesUpTo2000Steps();
        the2001stStepIsNotMade();
        the2001stStepThatCouldNotBeMadeAnyway();
        workEndsForEachReason();
        workDoesThePartsAheadOfItsEnd();
        workAtTheBoundsOfTheCount();
        workOfNoSteps();
        latestStopIsThatOfTheLatestWork();
        bracketsOpenAgainBehindAnEarlyEnd();
        Check.end();
    }

    private static void appendTakesCodes33To126() {
        for (int code = 33; code <= 126; code++) {
            CrankTheatre x = new CrankTheatre();
            CrankTheatre y = new CrankTheatre();
            Check.equal("code " + code, x.append(code), 1);
            y.append(code == 33 ? 126 : code - 1);
            Check.equal("it is told in the digest", x.digest() - y.digest(), code == 33 ? -93 : 1);
        }
        CrankTheatre x = new CrankTheatre();
        Check.refuses("32", x, ARGUMENT, () -> x.append(32));
        Check.refuses("127", x, ARGUMENT, () -> x.append(127));
        Check.equal("nothing was appended", x.append('l'), 1);
    }

    private static void appendTakes60Characters() {
        CrankTheatre x = new CrankTheatre();
        for (int length = 1; length <= 60; length++) {
            Check.equal("length", x.append('l'), length);
        }
        Check.refuses("a 61st", x, STATE, () -> x.append('l'));
        Check.refuses("a 61st that is none", x, ARGUMENT, () -> x.append(127));
        Check.equal("60 are there", x.clearBuffer(), 60);
        Check.equal("room again", x.append('l'), 1);
        Check.equal("not undoable", x.count(12), 0);
    }

    private static void clearBufferFromEmptyToFull() {
        CrankTheatre x = new CrankTheatre();
        for (int length : new int[] {0, 1, 2, 59, 60, 0, 1}) {
            Check.type(x, "x".repeat(length));
            Check.equal("had", x.clearBuffer(), length);
            Check.equal("empty then", x.firstError(), 0);
        }
        Check.equal("not undoable", x.count(12), 0);
    }

    private static void error(String text, int at) {
        CrankTheatre x = new CrankTheatre();
        Check.type(x, text);
        Check.equal("first error of " + text, x.firstError(), at);
        Check.equal("asked again", x.firstError(), at);
        Check.equal("the buffer stays", x.clearBuffer(), text.length());
    }

    private static void right(String text) {
        error(text, text.length());
    }

    private static void stepsFrom1To60WithoutLeadingZeros() {
        for (String sign : new String[] {"+", "-"}) {
            for (int steps = 1; steps <= 60; steps++) {
                CrankTheatre x = new CrankTheatre();
                right(sign + steps);
                error(sign + "0" + steps, 1);
                Check.equal("steps", Check.work(x, sign + steps), steps);
                Check.equal("count", x.count(0), sign.equals("+") ? steps : -steps);
            }
            for (int steps = 61; steps <= 99; steps++) {
                error(sign + steps, 2);
            }
            error(sign + "0", 1);
            error(sign + "100", 3);
            error(sign + "600", 3);
            error(sign + "111", 3);
            for (String none : new String[] {"/", ":", "+", "l"}) {
                error(sign + none, 1);
            }
            for (String none : new String[] {"/", ":", ";"}) {
                error(sign + "5" + none, 2);
                error(sign + "1" + none, 2);
            }
        }
    }

    private static void wheelsFrom0To4() {
        for (int wheel = 0; wheel < 5; wheel++) {
            CrankTheatre x = new CrankTheatre();
            right("k" + wheel);
            Check.work(x, "k" + wheel);
            for (int other = 0; other < 5; other++) {
                Check.equal("locked " + other, x.wheel(other, 4), other == wheel ? 0 : 1);
            }
            Check.work(x, "k" + wheel);
            Check.equal("locked again", x.count(5), 5);
        }
        for (String none : new String[] {"/", "5", "6", "9", ":", "-", "k"}) {
            error("k" + none, 1);
        }
        error("k01", 2);
    }

    private static void timesFrom2To9() {
        for (int times = 2; times <= 9; times++) {
            CrankTheatre x = new CrankTheatre();
            right("(+1)" + times);
            Check.equal("steps", Check.work(x, "(+1)" + times), times);
            Check.equal("in two brackets", Check.work(x, "((-1)" + times + ")" + times), times * times);
            Check.equal("beside one another", Check.work(x, "(+1)" + times + "(+1)2"), times + 2);
        }
        for (String none : new String[] {"/", "0", "1", ":", ")", "l", "+"}) {
            error("(+1)" + none, 4);
        }
        error("(+1)20", 5);
        error("(+1)33", 5);
    }

    private static void threeBracketsAtATime() {
        right("(");
        right("((");
        right("(((");
        error("((((", 3);
        error("(l((l(", 5);
        right("(((l)2)2)2");
        right("(((l)2(l)2(l");
        error("(((l)2((", 7);
        right("(((l)2)2(l(");
        right("(((l)2)2)2(((l");
        error("(((l)2)2)2((((", 13);
        error("l)", 1);
        error("(l)2)", 4);
        error("((l)2)2)", 7);
        error("(((l)2)2)2)", 10);
        CrankTheatre x = new CrankTheatre();
        Check.equal("three brackets", Check.work(x, "(((+1)2)2)2"), 8);
        Check.equal("three more behind them", Check.work(x, "(((+1)2)2)2(((-1)2)2)2"), 16);
        Check.equal("again and again in two", Check.work(x, "((+1(-1)2(+1)3)2(+1)4)2"), 2 * (2 * 6 + 4));
    }

    private static void bracketsHoldOneOrMoreParts() {
        error("()", 1);
        error("(l)2()", 5);
        error("((l)2())", 6);
        error("(((", 3);
        error("((()", 3);
        right("(l)");
        right("((l)2)");
    }

    private static void nothingBetweenParts() {
        right("+1-1k0l(l)2+1");
        for (String between : new String[] {",", ".", ";", "_", "!", "~"}) {
            error("+1" + between + "-1", 2);
            error("k0" + between + "l", 2);
            error("l" + between + "l", 1);
            error("(l)2" + between + "l", 4);
            error("(" + between + "l)2", 1);
        }
    }

    private static void firstErrorOfAnEmptyBuffer() {
        error("", 0);
        error("x", 0);
        right("l");
    }

    private static void firstErrorFromTheFirstCharacterToTheLast() {
        for (int at = 0; at < 60; at++) {
            error("l".repeat(at) + "x" + "l".repeat(59 - at), at);
            right("l".repeat(at) + "l");
        }
    }

    private static void firstErrorIsTheFirstOfMany() {
        error("lx+0", 1);
        error("+61+0", 2);
        error("xxx", 0);
        error("l)))", 1);
        error("(l)1)", 3);
    }

    /** "no work as a text, of any length, begins with" them: what ends at the 60th character may want more. */
    private static void firstErrorMindsNoLength() {
        for (String open : new String[] {"+", "-", "k", "(", "(l", "(l)", "+6"}) {
            String text = "l".repeat(60 - open.length()) + open;
            right(text);
            CrankTheatre x = new CrankTheatre();
            Check.type(x, text);
            if (!open.equals("+6")) {
                Check.refuses("not complete", x, ARGUMENT, x::work);
            }
        }
    }

    private static void workWantsCompleteText() {
        for (String text : new String[] {"+1", "-1", "+60", "k0", "k4", "l", "(l)2", "(l)9", "(((l)2)2)2", "ll"}) {
            CrankTheatre x = new CrankTheatre();
            Check.type(x, text);
            x.work();
            Check.equal("cleared", x.clearBuffer(), 0);
            for (int length = 0; length < text.length(); length++) {
                String begun = text.substring(0, length);
                CrankTheatre y = new CrankTheatre();
                Check.type(y, begun);
                if (begun.equals("+6") || begun.equals("l")) {
                    y.work();
                } else {
                    Check.refuses("work of " + begun, y, ARGUMENT, y::work);
                }
            }
        }
    }

    private static void workOfTheLongestText() {
        CrankTheatre x = new CrankTheatre();
        Check.equal("60 characters", Check.work(x, "+1-1".repeat(15)), 30);
        Check.equal("59 and one more", Check.work(x, "k1".repeat(29) + "ll"), 0);
        Check.equal("59", Check.work(x, "k1".repeat(29) + "l"), 0);
        Check.equal("58 times", x.wheel(1, 4), 1);
        Check.equal("60 in brackets", Check.work(x, "(((" + "k1".repeat(25) + "l)9)9)9"), 0);
        Check.equal("729 times 25", x.wheel(1, 4), 0);
    }

    private static void workClearsTheBuffer() {
        CrankTheatre x = new CrankTheatre();
        x.stop(2);
        Check.equal("ended early", Check.work(x, "+5k1"), 2);
        Check.equal("cleared", x.clearBuffer(), 0);
        Check.equal("nothing done", Check.work(x, "+5k1"), 0);
        Check.equal("cleared, too", x.firstError(), 0);
        Check.type(x, "l+");
        Check.refuses("not complete", x, ARGUMENT, x::work);
        Check.equal("not cleared", x.append('1'), 3);
        Check.equal("complete now", x.work(), 1);
        x.undo();
        Check.equal("undo does not bring it back", x.clearBuffer(), 0);
    }

    private static void workMakesUpTo2000Steps() {
        int[] due = {1999, 2000, 2000, 2000};
        String[] ends = {"+49", "+50", "+51", "+60"};
        for (int end = 0; end < 4; end++) {
            CrankTheatre x = new CrankTheatre();
            Check.equal("1950 and " + ends[end], Check.work(x, "((+50)3)9(+50)6(+50)6" + ends[end]), due[end]);
            Check.equal("the latest stop", x.count(10), end < 2 ? 0 : 5);
            Check.equal("count", x.count(0), due[end]);
        }
        CrankTheatre x = new CrankTheatre();
        Check.equal("both ways together", Check.work(x, "((+10-10)9)9(+10-10)9(+10-10)9+10-10"), 2000);
        Check.equal("all done", x.count(10), 0);
        Check.equal("1000 each", x.count(3) + x.count(4) * 10000, 10001000);
        Check.equal("2000 again by the next work", Check.work(x, "(((+50)5)8)2"), 2000);
        Check.equal("by 5", x.count(10), 5);
    }

    private static void the2001stStepIsNotMade() {
        String[] texts = {"((+50)5)8+1", "((+50)5)8k1+1k1", "((+50)5)8(+1)2", "((+50)5)8-1", "((+50)8)6", "(((+1)9)9)9((+20)9)8",
            "((+50)5)8l(k1+1)2"};
        int[] loose = {0, 1, 0, 0, 0, 0, 1};
        for (int text = 0; text < texts.length; text++) {
            CrankTheatre x = new CrankTheatre();
            Check.equal("steps of " + texts[text], Check.work(x, texts[text]), 2000);
            Check.equal("count behind " + texts[text], x.count(0), 2000);
            Check.equal("by 5", x.count(10), 5);
            Check.equal("the parts ahead of it are done", x.wheel(1, 4), 1 - loose[text]);
            Check.equal("one saved state", x.undo() + x.count(0), 0);
        }
        CrankTheatre x = new CrankTheatre();
        Check.equal("no step behind the 2000th", Check.work(x, "((+50)5)8k1lk2"), 2000);
        Check.equal("all is done", x.count(10), 0);
        Check.equal("two are loose", x.count(5), 3);
    }


    private static void ends(String text, CrankTheatre x, int steps, int reason) {
        Check.equal("steps of " + text, Check.work(x, text), steps);
        Check.equal("the latest stop of " + text, x.count(10), reason);
    }

    /** "5 by the number of steps (also if that step could not be made anyway)"; one step earlier, it is the reason. */
    private static void the2001stStepThatCouldNotBeMadeAnyway() {
        ends(TO_2000 + "k2+1", jamsWithTheTrapLocked(), 2000, 5);
        ends(TO_1999 + "k2+1", jamsWithTheTrapLocked(), 1999, 1);
        ends(TO_2000 + "k4+1", jamsWithTheMoonLocked(), 2000, 5);
        ends(TO_1999 + "k4+1", jamsWithTheMoonLocked(), 1999, 2);
        ends(TO_1980 + "+21", stopAt(20), 2000, 5);
        ends(TO_1980 + "+20", stopAt(20), 2000, 0);
        ends(TO_1980 + "+20", stopAt(19), 1999, 3);
        ends(TO_1980 + "+19", stopAt(19), 1999, 0);
        ends(TO_2000 + "+1", Stage.at(7999), 2000, 5);
        ends(TO_2000 + "+1", Stage.at(8000), 1999, 4);
        ends(TO_1999 + "+1", Stage.at(7999), 2000, 0);
    }

    private static CrankTheatre stopAt(int place) {
        CrankTheatre x = new CrankTheatre();
        x.stop(place);
        return x;
    }

    private static CrankTheatre jamsWithTheTrapLocked() {
        CrankTheatre x = Stage.teeth(2, 2, 2, 2, 2);
        x.file(0, 0, 0);
        x.file(0, 1, 0);
        x.file(2, 1, 9);
        x.clutch(2);
        return x;
    }

    private static CrankTheatre jamsWithTheMoonLocked() {
        CrankTheatre x = Stage.teeth(2, 2, 2, 2, 2);
        x.file(2, 0, 9);
        x.file(2, 1, 9);
        x.file(3, 0, 9);
        x.file(3, 1, 9);
        x.file(4, 1, 9);
        x.clutch(4);
        return x;
    }

    private static void workEndsForEachReason() {
        ends("k0k2+1", jamsWithTheTrapLocked(), 0, 1);
        ends("k4+1", jamsWithTheMoonLocked(), 0, 2);
        ends("k4-1", jamsWithTheMoonLocked(), 0, 2);
        ends("+1k4+2", jamsWithTheMoonLocked(), 1, 2);
        ends("+1", stopAt(0), 0, 3);
        ends("-60", stopAt(59), 1, 3);
        ends("-1", stopAt(59), 1, 0);
        ends("-2", stopAt(59), 1, 3);
        ends("l-60", stopAt(0), 60, 0);
        ends("l-60-1", stopAt(0), 60, 3);
        ends("l-60l-1", stopAt(0), 61, 0);
        ends("(l+2)9", stopAt(1), 1, 3);
        ends("(+1l)9", stopAt(1), 9, 0);
    }

    private static void workDoesThePartsAheadOfItsEnd() {
        CrankTheatre x = stopAt(3);
        ends("k0(+1k1)9k2l", x, 3, 3);
        Check.equal("ahead of the brackets", x.wheel(0, 4), 0);
        Check.equal("three times", x.wheel(1, 4), 0);
        Check.equal("behind the end", x.wheel(2, 4), 1);
        Check.equal("behind the end, too", x.count(11), 0);
        Check.equal("caught", x.count(2), 1);
        Check.equal("undone in one go", x.undo(), 1);
        Check.equal("all as it was", x.count(0) * 10 + x.count(5), 5);
        CrankTheatre y = stopAt(0);
        ends("k0k1+1k2", y, 0, 3);
        Check.equal("two are loose", y.count(5), 3);
    }

    private static void workAtTheBoundsOfTheCount() {
        ends("+9", Stage.at(9990), 9, 0);
        ends("+10", Stage.at(9990), 9, 4);
        ends("-9", Stage.at(-9990), 9, 0);
        ends("-10", Stage.at(-9990), 9, 4);
        ends("+1", Stage.at(9999), 0, 4);
        ends("l+1", Stage.at(9999), 0, 4);
        ends("-1+1", Stage.at(9999), 2, 0);
        ends("(-1+1)9+1", Stage.at(9999), 18, 4);
    }

    private static void workOfNoSteps() {
        CrankTheatre x = stopAt(0);
        Check.equal("a clutch", Check.work(x, "k3"), 0);
        Check.equal("all is done", x.count(10), 0);
        Check.equal("saved", x.count(12), 2);
        Check.equal("a lift", Check.work(x, "l"), 0);
        Check.equal("lifted", x.count(11), 1);
        Check.equal("not caught", x.count(2), 0);
        Check.equal("saved", x.count(12), 3);
        x.undo();
        Check.equal("nothing is done", Check.work(x, "-1"), 0);
        Check.equal("saved, too", x.count(12), 3);
        Check.equal("nothing is changed but the latest stop", Check.work(x, "k1k1"), 0);
        Check.equal("saved, too", x.count(12), 4);
    }

    private static void latestStopIsThatOfTheLatestWork() {
        CrankTheatre x = stopAt(0);
        Check.equal("none at first", x.count(10), 0);
        ends("+1", x, 0, 3);
        Check.equal("no step", x.turn(1), 0);
        x.lift();
        Check.equal("a turn that is made", x.turn(1), 1);
        Check.equal("it stays", x.count(10), 3);
        x.keep();
        ends("+1", x, 1, 0);
        Check.equal("undo brings it back", x.undo() + x.count(10), 5 + 3);
        ends("k0", x, 0, 0);
        x.goBack();
        Check.equal("the snapshot brings it back", x.count(10), 3);
        Check.type(x, "+");
        Check.refuses("refused work", x, ARGUMENT, x::work);
        Check.equal("does not change it", x.count(10), 3);
    }

    private static void bracketsOpenAgainBehindAnEarlyEnd() {
        CrankTheatre x = stopAt(3);
        ends("(((+1)2)2)9", x, 3, 3);
        ends("l(((+1)2)2)2", x, 8, 0);
        ends("((+50)9)9", x, 52, 3);
        ends("l((-1)2)3", x, 6, 0);
    }
}
