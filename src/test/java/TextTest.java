/** Promises 6 to 8: QUESTIONS, ONIONS and TRANSCRIPTS as texts. */
public final class TextTest {
    private static final int LOW = Integer.MIN_VALUE;
    private static final int HIGH = Integer.MAX_VALUE;

    private TextTest() {
    }

    public static void main(String[] args) {
        questions();
        questionWorlds();
        questionSizes();
        questionFaults();
        questionDepths();
        onions();
        onionSizes();
        onionFaults();
        onionFaultsByNumber();
        onionPlaceIsKept();
        transcripts();
        transcriptSizes();
        transcriptFaults();
        transcriptFull();
        transcriptPeels();
        transcriptOrder();
        everyByteOfAQuestion();
        everyByteOfAnOnion();
        everyByteOfATranscript();
        Checks.end("TextTest");
    }

    private static void due(String call, long want, long got) {
        Checks.due(call, want, got);
    }

    private static void questions() {
        OnionCourt x = new OnionCourt();
        String[] texts = {"a", "e", "!a", "a&b", "a|b", "a^b", "0", "1", "a|b&c", "a^b|c", "a^b&c", "!(a&b)", "!a&b",
            "a^b^c", "a&b&c&d&e", "a|b|c|d|e", "((((((e))))))", "!!!!!!e", "!!!a", "(a|b)&(c|d)", "!!!!!!a&!!!!!!b",
            "a&!a", "a|!a", "a^a", "(a^b)&c", "a^1", "a&0|1", "!(!(!(a)))", "a&b^c&d", "a|b^c", "!(a|b)^c"};
        int[] want = {16, 16, 16, 8, 24, 16, 0, 32, 20, 24, 16, 24, 8,
            16, 1, 31, 16, 16, 16, 18, 8,
            0, 32, 0, 8, 16, 32, 16, 12, 24, 16};
        for (int i = 0; i < texts.length; i++) {
            due("question " + texts[i], want[i], Checks.question(x, i % 8, texts[i]));
            due("count of " + texts[i], want[i], x.count(20 + i % 8));
        }
        due("told", 255, x.count(3));
    }

    private static void questionWorlds() {
        OnionCourt x = new OnionCourt();
        x.witness(0, 1);
        Checks.onion(x, 0, "5x9");
        Checks.question(x, 7, "a");
        x.answers(0, 7, true, false);
        due("WORLDS of a", 0xAAAAAAAAL, x.ifTrue(1));
        String[] texts = {"b", "c", "d", "e", "a&!e", "a&b|c&d", "a^b^c", "!a&!b", "!(a&b)|e"};
        long[] bits = {0xCCCCCCCCL, 0xF0F0F0F0L, 0xFF00FF00L, 0xFFFF0000L, 0x0000AAAAL,
            0xF888F888L, 0x96969696L, 0x11111111L, 0xFFFF7777L};
        for (int i = 0; i < texts.length; i++) {
            Checks.question(x, 7, texts[i]);
            due("also for ANSWERS there are: " + texts[i], bits[i], x.ifTrue(1));
        }
    }

    private static void questionSizes() {
        OnionCourt x = new OnionCourt();
        Checks.feed(x, TestCourt.times(31, "a", "|"));
        int[][] none = {{0, 61}, {0, 81}, {8, 1}, {-1, 1}, {0, 0}, {0, -5}, {LOW, HIGH}, {0, HIGH}, {HIGH, 1}};
        for (int[] one : none) {
            due("question " + one[0] + " " + one[1], -1, x.question(one[0], one[1]));
        }
        due("the tape stays", 80, x.count(5));
        due("59 of these", 16, x.question(0, 59));
        due("empty then", 0, x.count(5));
        due("60 bytes", 32, Checks.question(x, 0, "!" + TestCourt.times(30, "a", "|")));
        due("no 61 bytes", -1, Checks.question(x, 1, "!!" + TestCourt.times(30, "a", "&")));
        due("the tape stays", 80, x.count(5));
        OnionCourt y = new OnionCourt();
        Checks.feed(y, "a");
        due("not so many", -1, y.question(0, 21));
        due("the tape stays", 20, y.count(5));
        due("none told", 0, y.count(3));
    }

    private static void questionFaults() {
        String[] texts = {"f", "2", "A", "a&", "(a", "a)", "()", "ab", "a|", "|a", "&", "!", "!)", "a!b", "a(b)", "a b", " a",
            "(a))", "((a)", "a||b", "a^&b", "00", "\u00e1", "!(a", "a&b^", "1a", "a;b", "a^(b|)", "(a]", "a+b", "(a(b))"};
        int[] places = {0, 0, 0, 2, 2, 1, 1, 1, 2, 0, 0, 1, 1, 1, 1, 1, 0,
            3, 4, 2, 2, 1, 0, 3, 4, 1, 1, 5, 2, 1, 2};
        for (int i = 0; i < texts.length; i++) {
            due("question " + texts[i], -1000 - places[i], Checks.question(new OnionCourt(), 0, texts[i]));
        }
        OnionCourt x = new OnionCourt();
        Checks.question(x, 2, "a&b");
        due("a FAULT", -1001, Checks.question(x, 2, "a b"));
        due("empty then", 0, x.count(5));
        due("the one before stays", 8, x.count(22));
        due("a FAULT tells none", -1000, Checks.question(x, 3, "x"));
        due("told", 4, x.count(3));
    }

    private static void questionDepths() {
        String[] texts = {"(((((((a", "!!!!!!!a", "!(!(!(!a", "a|!(!(!((a", "!a&(((((((a", "(!!!!!!a)", "((((((a))))))&((((((!a))))))"};
        int[] places = {6, 6, 6, 8, 9, 6, 20};
        for (int i = 0; i < texts.length; i++) {
            due("question " + texts[i], -5000 - places[i], Checks.question(new OnionCourt(), 0, texts[i]));
        }
        due("six again", 8, Checks.question(new OnionCourt(), 0, "((((((a))))))&!!!!!!b"));
        due("! ends with its PIECE", 8, Checks.question(new OnionCourt(), 0, "!!(!!(a&b))&!(!!0)^1&!1"));
    }

    private static void onions() {
        OnionCourt x = new OnionCourt();
        x.witness(0, 4);
        due("one LAYER", 1, Checks.onion(x, 0, "5"));
        due("three", 3, Checks.onion(x, 0, "50,30x2"));
        due("outside first", 50, x.witnessIs(0, 10));
        due("outside first", 30, x.witnessIs(0, 11));
        due("outside first", 30, x.witnessIs(0, 12));
        due("twelve", 12, Checks.onion(x, 0, "7x9,8x3"));
        due("leading 0", 1, Checks.onion(x, 0, "07"));
        due("leading 0", 7, x.witnessIs(0, 10));
        due("99", 2, Checks.onion(x, 0, "99x2"));
        due("STRENGTHS", 198, x.witnessIs(0, 2));
        due("in place", 12, Checks.onion(x, 0, "1,2,3,4,5,6,7,8,9,10,11,12"));
        due("the twelfth", 12, x.witnessIs(0, 21));
        due("HONESTY stays", 4, x.witnessIs(0, 0));
        for (int times = 2; times <= 9; times++) {
            due("x" + times, times + 1, Checks.onion(x, 0, "40x" + times + ",1"));
            due("40s and a 1", 40 * times + 1, x.witnessIs(0, 2));
        }
    }

    private static void onionSizes() {
        OnionCourt x = new OnionCourt();
        x.witness(0, 4);
        Checks.feed(x, "12,".repeat(21));
        int[][] none = {{0, 61}, {0, 81}, {1, 2}, {-1, 2}, {10, 2}, {0, 0}, {0, -1}, {LOW, HIGH}, {0, HIGH}, {HIGH, 2}};
        for (int[] one : none) {
            due("onion " + one[0] + " " + one[1], -1, x.onion(one[0], one[1]));
        }
        due("the tape stays", 80, x.count(5));
        due("60 of these", -6036, x.onion(0, 60));
        due("empty then", 0, x.count(5));
        Checks.feed(x, "12,".repeat(21));
        due("2 of these", 1, x.onion(0, 2));
        due("empty then", 0, x.count(5));
        Checks.feed(x, "5");
        due("not so many", -1, x.onion(0, 21));
        due("the tape stays", 20, x.count(5));
    }

    private static void onionFaults() {
        OnionCourt x = new OnionCourt();
        x.witness(0, 4);
        String[] texts = {"x", ",", "5x", "5x1", "5x0", "5,", "5;", "123", "5x23", "5x2x2", "5,,5", " 5", "5 ", "-5", "5xx",
            "5x,", "\u00b25", "5,x2", "1x9,1xq", "1x9,1x3,2x", "1x9,1x3,", "1x9,100", "5x10", "12x2;", "5:", "5/", ":", "/", "5x:", "5x/"};
        int[] places = {0, 0, 2, 2, 2, 2, 1, 2, 3, 3, 2, 0, 1, 0, 2,
            2, 0, 2, 6, 10, 8, 6, 2, 4, 1, 1, 0, 0, 2, 2};
        for (int i = 0; i < texts.length; i++) {
            due("onion " + texts[i], -1000 - places[i], Checks.onion(x, 0, texts[i]));
        }
        due("none at first", 0, x.witnessIs(0, 1));
    }

    private static void onionFaultsByNumber() {
        OnionCourt x = new OnionCourt();
        x.witness(0, 4);
        String[] texts = {"0", "00", "000", "0x", "0x2", "0?", "00x2", "0,5", "5,00", "5,0"};
        int[] places = {0, 0, 0, 0, 0, 0, 0, 0, 2, 2};
        for (int i = 0; i < texts.length; i++) {
            due("onion " + texts[i], -3000 - places[i], Checks.onion(x, 0, texts[i]));
        }
        String[] many = {"7x9,8x4", "7x9,83,11x3", "1x9,1x9x", "1x9,1x3,1", "1,2,3,4,5,6,7,8,9,1,2,3,44", "1x9,1x3,5?", "1x9,1x3,55,0"};
        int[] from = {4, 7, 4, 8, 24, 8, 8};
        for (int i = 0; i < many.length; i++) {
            due("onion " + many[i], -6000 - from[i], Checks.onion(x, 0, many[i]));
        }
        due("a 0 behind twelve", -3008, Checks.onion(x, 0, "1x9,1x3,0"));
    }

    private static void onionPlaceIsKept() {
        OnionCourt x = new OnionCourt();
        x.witness(0, 4);
        Checks.onion(x, 0, "50,30x2");
        due("a FAULT", -1008, Checks.onion(x, 0, "1x9,2x2,"));
        due("empty then", 0, x.count(5));
        due("the one before stays", 3, x.witnessIs(0, 1));
        due("the one before stays", 110, x.witnessIs(0, 2));
        due("the one before stays", 30, x.witnessIs(0, 12));
        x.witness(1, 2);
        Checks.onion(x, 1, "3");
        due("another's", 3, x.witnessIs(0, 1));
        due("the own", 3, x.witnessIs(1, 2));
    }

    private static void transcripts() {
        OnionCourt x = TestCourt.made();
        due("one", 1, Checks.transcript(x, "0A+"));
        due("two more", 3, Checks.transcript(x, "1E-*;0B-"));
        int[][] want = {{0, 0, 1, 0, 50, 12, 0}, {1, 4, 0, 1, 9, 12, 0}, {0, 1, 0, 0, 50, 11, 0}};
        for (int i = 0; i < want.length; i++) {
            for (int what = 0; what < want[i].length; what++) {
                due("ANSWER " + i + " " + what, want[i][what], x.answerIs(i, what));
            }
        }
        due("peeled", 10, x.witnessIs(0, 1));
        due("peeled", 11, x.witnessIs(1, 1));
        due("more", 8, Checks.transcript(x, "0A+*;0A-*;0A+;0A-;0A+"));
        due("cried", 1, x.answerIs(3, 3));
        due("no, cried", 0, x.answerIs(4, 2));
        due("empty then", 0, x.count(5));
    }

    private static void transcriptSizes() {
        OnionCourt x = TestCourt.made();
        Checks.feed(x, "0A+;".repeat(26));
        for (int n : new int[] {0, -1, 101, 121, HIGH, LOW}) {
            due("transcript " + n, -1, x.transcript(n));
        }
        due("the tape stays", 120, x.count(5));
        due("100 of these", -8048, x.transcript(100));
        due("empty then", 0, x.count(5));
        due("not so many", -1, x.transcript(1));
        String twenty = TestCourt.times(10, "0A+*;1B-*", ";");
        due("the end of 100 bytes", -1100, Checks.transcript(x, twenty + ";"));
        due("99 bytes", 20, Checks.transcript(x, twenty));
        for (int i = 0; i < 20; i++) {
            x.strike();
        }
        Checks.feed(x, "0A+");
        due("not so many", -1, x.transcript(21));
        due("the tape stays", 20, x.count(5));
        due("3 of these", 1, x.transcript(3));
    }

    private static void transcriptFaults() {
        OnionCourt x = TestCourt.made();
        String[] texts = {"x", "A0+", "0", "0I+", "0a+", "0@+", "0A", "0A*", "0A+x", "0A+;", "0A-**", "0A+ ;0A+", " 0A+", "0A+,0A+",
            "0A+;;", "0A+-", "00A+", "0AA+", "0A+*;x", "\u00b0A+", ":A+", "/A+", "0A+0A+"};
        int[] places = {0, 0, 1, 1, 1, 1, 2, 2, 3, 4, 4, 3, 0, 3,
            4, 3, 1, 2, 5, 0, 0, 0, 3};
        for (int i = 0; i < texts.length; i++) {
            due("transcript " + texts[i], -1000 - places[i], Checks.transcript(x, texts[i]));
        }
        due("no such WITNESS", -7000, Checks.transcript(x, "2A+"));
        due("no such WITNESS", -7004, Checks.transcript(x, "0A+;9A+"));
        due("no such QUESTION", -7001, Checks.transcript(x, "0F+"));
        due("no such QUESTION", -7006, Checks.transcript(x, "0A+*;0H+"));
        due("the first from the left", -7000, Checks.transcript(x, "2H+"));
        due("the first from the left", -7000, Checks.transcript(x, "2x"));
        due("the first from the left", -7001, Checks.transcript(x, "0Hx"));
        due("nothing is done", 0, x.count(1));
        due("nothing is peeled", 12, x.witnessIs(0, 1));
        due("empty then", 0, x.count(5));
        OnionCourt y = new OnionCourt();
        y.witness(0, 0);
        Checks.onion(y, 0, "5");
        for (int k = 0; k < 8; k++) {
            due("none is told", -7001, Checks.transcript(y, "0" + (char) ('A' + k) + "+"));
        }
    }

    private static void transcriptFull() {
        OnionCourt x = TestCourt.made();
        due("twelve", 12, Checks.transcript(x, TestCourt.times(12, "0A+", ";")));
        due("the 20th", 20, Checks.transcript(x, TestCourt.times(8, "1A+", ";")));
        due("a 21st", -4000, Checks.transcript(x, "1A+"));
        due("4 ahead of 7", -4000, Checks.transcript(x, "2A+"));
        due("4 ahead of 8", -4000, Checks.transcript(x, "0A+"));
        due("what can't stand", -1000, Checks.transcript(x, "x"));
        x.strike();
        due("a 21st", -4004, Checks.transcript(x, "1A+;1A+"));
        due("nothing is done", 19, x.count(1));
        due("8 ahead of 4", -8000, Checks.transcript(x, "0A+;1A+"));
        due("the 20th", 20, Checks.transcript(x, "1A+"));
    }

    private static void transcriptPeels() {
        OnionCourt x = TestCourt.made();
        Checks.onion(x, 0, "20,10");
        due("no third LAYER", -8008, Checks.transcript(x, "0A+;0A+;0A+"));
        due("nothing is done", 0, x.count(1));
        due("nothing is peeled", 2, x.witnessIs(0, 1));
        due("STRENGTHS stay", 20, x.witnessIs(0, 10));
        due("both", 2, Checks.transcript(x, "0A+;0A+"));
        due("STRENGTH", 20, x.answerIs(0, 4));
        due("STRENGTH", 10, x.answerIs(1, 4));
        due("no LAYER", -8000, Checks.transcript(x, "0A+"));
        due("no LAYER", -8004, Checks.transcript(x, "1A+;0A+"));
        x.witness(2, 2);
        due("none at first", -8000, Checks.transcript(x, "2A+"));
    }

    private static void transcriptOrder() {
        OnionCourt x = TestCourt.made();
        x.witness(2, 2);
        due("no LAYER, no QUESTION", -8000, Checks.transcript(x, "2H+"));
        due("no LAYER, what can't stand", -8000, Checks.transcript(x, "2x"));
        due("a FAULT later undoes all", -1006, Checks.transcript(x, "0A+;0B?"));
        due("nothing is done", 0, x.count(1));
        x.weeks(3);
        Checks.transcript(x, "0A+");
        due("THE WEEK", 3, x.answerIs(0, 6));
    }

    private static boolean isOneOf(String signs, char sign) {
        return signs.indexOf(sign) >= 0;
    }

    /** A byte 0 is no end, and bytes above 127 are not below 0. */
    private static void everyByteOfAQuestion() {
        for (char sign = 0; sign < 256; sign++) {
            int first = isOneOf("(!", sign) ? -1001 : -1000;
            first = isOneOf("abcde", sign) ? 16 : sign == '0' ? 0 : sign == '1' ? 32 : first;
            due("question of byte " + (int) sign, first, Checks.question(new OnionCourt(), 0, "" + sign));
            int second = isOneOf("|^&", sign) ? -1002 : -1001;
            due("question a and byte " + (int) sign, second, Checks.question(new OnionCourt(), 0, "a" + sign));
        }
    }

    private static void everyByteOfAnOnion() {
        OnionCourt x = new OnionCourt();
        for (char sign = 0; sign < 256; sign++) {
            if (sign % 100 == 0) {
                x = new OnionCourt();
                x.witness(0, 0);
            }
            int first = isOneOf("123456789", sign) ? 1 : sign == '0' ? -3000 : -1000;
            due("onion of byte " + (int) sign, first, Checks.onion(x, 0, "" + sign));
            int second = isOneOf("0123456789", sign) ? 1 : isOneOf("x,", sign) ? -1002 : -1001;
            due("onion 5 and byte " + (int) sign, second, Checks.onion(x, 0, "5" + sign));
        }
    }

    private static void everyByteOfATranscript() {
        for (char sign = 0; sign < 256; sign++) {
            OnionCourt x = TestCourt.made();
            int first = isOneOf("01", sign) ? -1001 : isOneOf("23456789", sign) ? -7000 : -1000;
            due("transcript of byte " + (int) sign, first, Checks.transcript(x, "" + sign));
            int second = isOneOf("ABCDE", sign) ? -1002 : isOneOf("FGH", sign) ? -7001 : -1001;
            due("transcript 0 and byte " + (int) sign, second, Checks.transcript(x, "0" + sign));
            int third = isOneOf("+-", sign) ? 1 : -1002;
            due("transcript 0A and byte " + (int) sign, third, Checks.transcript(x, "0A" + sign));
            int fourth = sign == '*' ? 1 : sign == ';' ? -1004 : -1003;
            due("transcript 0A+ and byte " + (int) sign, fourth, Checks.transcript(x, "0A+" + sign));
        }
    }
}
