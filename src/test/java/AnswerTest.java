/** Promises 9, 10, 13, 14, 23, 24: ANSWERS, and what is told of them and of WITNESSES. */
public final class AnswerTest {
    private static final int LOW = Integer.MIN_VALUE;
    private static final int HIGH = Integer.MAX_VALUE;

    private AnswerTest() {
    }

    public static void main(String[] args) {
        answers();
        answersRefused();
        strike();
        witnessIs();
        heart();
        witnessIsRefused();
        answerIs();
        agree();
        agreeRefused();
        tears();
        Checks.end("AnswerTest");
    }

    private static void due(String call, long want, long got) {
        Checks.due(call, want, got);
    }

    private static void answers() {
        OnionCourt x = TestCourt.made();
        Checks.onion(x, 0, "70,60,50");
        due("the outermost", 70, x.answers(0, 0, true, false));
        due("the next", 60, x.answers(0, 1, false, true));
        due("another's", 9, x.answers(1, 4, true, true));
        due("the heart", 50, x.answers(0, 0, true, false));
        due("no LAYER", -3, x.answers(0, 0, true, false));
        due("ANSWERS", 4, x.count(1));
        due("peeled", 11, x.witnessIs(1, 1));
    }

    private static void answersRefused() {
        OnionCourt x = TestCourt.made();
        int[][] none = {{2, 0}, {0, 5}, {-1, 0}, {10, 0}, {0, -1}, {0, 8}, {LOW, HIGH}, {0, HIGH}, {HIGH, 0}, {0, 32}};
        for (int[] one : none) {
            due("answers " + one[0] + " " + one[1], -1, x.answers(one[0], one[1], true, true));
        }
        due("nothing is done", 0, x.count(1));
        due("nothing is peeled", 12, x.witnessIs(0, 1));
        for (int i = 0; i < 12; i++) {
            due("answers", 50, x.answers(0, 0, true, true));
        }
        for (int i = 0; i < 8; i++) {
            due("answers", 9, x.answers(1, 0, true, true));
        }
        due("there are 20", -2, x.answers(1, 0, true, true));
        due("there are 20, and no LAYER", -2, x.answers(0, 0, true, true));
        due("no such ones", -1, x.answers(2, 0, true, true));
        due("nothing is peeled", 4, x.witnessIs(1, 1));
        x.strike();
        due("no LAYER", -3, x.answers(0, 0, true, true));
        due("the 20th", 9, x.answers(1, 0, true, true));
    }

    private static void strike() {
        OnionCourt x = TestCourt.made();
        due("there is none", -2, x.strike());
        x.answers(0, 0, true, true);
        x.answers(1, 4, true, false);
        due("strike", 1, x.strike());
        due("the last is out", -1, x.answerIs(1, 0));
        due("the first stays", 0, x.answerIs(0, 0));
        due("its LAYER stays peeled", 11, x.witnessIs(1, 1));
        due("no ANSWER of 1", 0, x.witnessIs(1, 5));
        due("strike", 0, x.strike());
        due("there is none", -2, x.strike());
        due("ANSWERS", 0, x.count(1));
        due("TEARS", 0, x.tears(0));
    }

    private static void witnessIs() {
        OnionCourt x = TestCourt.made();
        Checks.onion(x, 1, "70,60,50,40");
        x.answers(1, 0, true, true);
        x.answers(1, 0, false, false);
        x.answers(1, 3, false, true);
        x.answers(0, 3, false, true);
        Checks.onion(x, 1, "70,60,50,40");
        int[] want = {2, 4, 220, 60, 2, 3, -1, -1, -1, -1, 70, 60, 50, 40, -2, -2, -2, -2, -2, -2, -2, -2, -1};
        for (int what = 0; what < want.length; what++) {
            due("witnessIs 1 " + what, want[what], x.witnessIs(1, what));
        }
        due("TEARS of 0", 1, x.witnessIs(0, 4));
        due("ANSWERS of 0", 1, x.witnessIs(0, 5));
    }

    private static void heart() {
        OnionCourt x = TestCourt.made();
        String text = "";
        int[] hearts = {1, 1, 2, 2, 3, 3, 4, 4, 5, 5, 6, 6};
        for (int i = 0; i < 12; i++) {
            text += (i == 0 ? "" : ",") + (i + 1);
            due("LAYERS", i + 1, Checks.onion(x, 0, text));
            due("THE HEART of " + text, hearts[i], x.witnessIs(0, 3));
        }
        x.witness(0, 1);
        due("no LAYER", -2, x.witnessIs(0, 3));
        due("no LAYER", -2, x.witnessIs(0, 10));
        due("none together", 0, x.witnessIs(0, 2));
    }

    private static void witnessIsRefused() {
        OnionCourt x = TestCourt.made();
        int[][] none = {{2, 0}, {-1, 0}, {10, 0}, {0, -1}, {0, 6}, {0, 9}, {0, 22}, {0, LOW}, {0, HIGH}, {LOW, 1}, {HIGH, 1}};
        for (int[] one : none) {
            due("witnessIs " + one[0] + " " + one[1], -1, x.witnessIs(one[0], one[1]));
        }
    }

    private static void answerIs() {
        OnionCourt x = TestCourt.made();
        Checks.onion(x, 1, "70,60");
        x.answers(0, 0, true, false);
        x.weeks(2);
        x.answers(1, 4, false, true);
        x.answers(1, 2, true, true);
        int[][] want = {{0, 0, 1, 0, 50, 12, 0}, {1, 4, 0, 1, 70, 2, 2}, {1, 2, 1, 1, 60, 1, 2}};
        for (int i = 0; i < want.length; i++) {
            for (int what = 0; what < want[i].length; what++) {
                due("answerIs " + i + " " + what, want[i][what], x.answerIs(i, what));
            }
        }
        int[][] none = {{0, 7}, {0, -1}, {3, 0}, {-1, 0}, {20, 0}, {LOW, 0}, {HIGH, 0}, {0, LOW}, {0, HIGH}};
        for (int[] one : none) {
            due("answerIs " + one[0] + " " + one[1], -1, x.answerIs(one[0], one[1]));
        }
        OnionCourt y = TestCourt.made();
        Checks.transcript(y, TestCourt.times(10, "0A+;1E-*", ";"));
        int[] last = {1, 4, 0, 1, 9, 3, 0};
        for (int what = 0; what < last.length; what++) {
            due("the 20th " + what, last[what], y.answerIs(19, what));
            due("a 21st " + what, -1, y.answerIs(20, what));
        }
    }

    private static void agree() {
        OnionCourt x = TestCourt.made();
        due("nothing said, alike", 0, x.agree(0, 1, 0));
        due("nothing said, not", 0, x.agree(0, 1, 1));
        Checks.transcript(x, "0A+;0B+;0C-;1A+;1B-;1D+");
        due("A", 1, x.agree(0, 1, 0));
        due("B", 1, x.agree(0, 1, 1));
        due("the other way", 1, x.agree(1, 0, 0));
        Checks.transcript(x, "1B+");
        due("the last ANSWER of 1", 2, x.agree(0, 1, 0));
        due("the last ANSWER of 1", 0, x.agree(0, 1, 1));
        Checks.transcript(x, "0A-;0B-;1C-;0D-");
        due("the last ANSWERS of 0", 1, x.agree(0, 1, 0));
        due("the last ANSWERS of 0", 3, x.agree(0, 1, 1));
        x.strike();
        due("struck out", 2, x.agree(0, 1, 1));
        x.witness(1, 5);
        due("the ANSWERS stay", 2, x.agree(1, 0, 1));
        x.witness(2, 2);
        due("one who said nothing", 0, x.agree(0, 2, 0));
        due("one who said nothing", 0, x.agree(2, 0, 1));
        Checks.onion(x, 2, "5");
        x.answers(2, 3, true, false);
        due("D alike", 1, x.agree(2, 1, 0));
        due("D alike", 0, x.agree(1, 2, 1));
        due("no D of 0", 0, x.agree(2, 0, 0));
    }

    private static void agreeRefused() {
        OnionCourt x = TestCourt.made();
        int[][] none = {{0, 0, 0}, {0, 2, 0}, {2, 0, 0}, {0, 1, 2}, {0, 1, -1}, {-1, 0, 0}, {0, 10, 1}, {LOW, HIGH, 0}, {2, 3, 0}};
        for (int[] one : none) {
            due("agree " + one[0] + " " + one[1] + " " + one[2], -1, x.agree(one[0], one[1], one[2]));
        }
    }

    private static void tears() {
        OnionCourt x = TestCourt.made();
        due("none", 0, x.tears(0));
        Checks.transcript(x, "0A+*;1A-*;1A+;0E+*;0B-");
        int[] want = {2, 0, 0, 0, 1, -1, -1, -1, -1};
        for (int k = 0; k < want.length; k++) {
            due("tears " + k, want[k], x.tears(k));
        }
        due("tears -1", -1, x.tears(-1));
        due("far", -1, x.tears(LOW));
        due("far", -1, x.tears(HIGH));
        due("far", -1, x.tears(32));
    }
}
