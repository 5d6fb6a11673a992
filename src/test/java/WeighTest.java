/** Promises 15 to 18: how likely what is, when what was said is weighed. */
public final class WeighTest {
    private static final int LOW = Integer.MIN_VALUE;
    private static final int HIGH = Integer.MAX_VALUE;

    private WeighTest() {
    }

    public static void main(String[] args) {
        byPriors();
        byAnswers();
        byLetters();
        asItWasAtTheAnswer();
        byTears();
        largeNumbers();
        largestNumbers();
        smallestNumbers();
        twentyAnswers();
        atTheLastWeek();
        cannotBe();
        likelyRefused();
        lie();
        lieRefused();
        world();
        worldFacts();
        worldRefused();
        askNext();
        askNextRefused();
        Checks.end("WeighTest");
    }

    private static void due(String call, long want, long got) {
        Checks.due(call, want, got);
    }

    private static void likely(String call, OnionCourt x, int k, int answers, long above, long below) {
        due(call + ", above", above, x.likely(k, answers, 0));
        due(call + ", below", below, x.likely(k, answers, 1));
    }

    private static void byPriors() {
        OnionCourt x = TestCourt.made();
        likely("a", x, 0, 0, 1, 2);
        likely("a&b", x, 1, 0, 1, 4);
        likely("a|b", x, 2, 0, 3, 4);
        x.prior(0, 7);
        x.prior(1, 2);
        likely("a", x, 0, 0, 7, 10);
        likely("a&b", x, 1, 0, 7, 50);
        likely("a|b", x, 2, 0, 19, 25);
        likely("a^b", x, 3, 0, 31, 50);
        likely("!a", x, 4, 0, 3, 10);
        x.prior(0, 10);
        likely("surely a", x, 0, 0, 1, 1);
        likely("surely not !a", x, 4, 0, 0, 1);
        Checks.question(x, 0, "0");
        likely("never", x, 0, 0, 0, 1);
    }

    private static void byAnswers() {
        OnionCourt x = TestCourt.made();
        Checks.law(x, "l10-h(1=1);c8(z=1);c2(1=1)");
        x.answers(0, 0, true, false);
        x.answers(1, 4, true, true);
        x.answers(1, 0, false, false);
        likely("none weighed", x, 0, 0, 1, 2);
        likely("a by 0", x, 0, 1, 36, 37);
        likely("a&b by 0", x, 1, 1, 18, 37);
        likely("a by 1, who lies and cries", x, 0, 2, 16, 17);
        likely("a by both", x, 0, 3, 576, 577);
        likely("a by no, not cried", x, 0, 4, 1, 2);
        x.strike();
        likely("struck out", x, 0, 4, -1, -1);
    }

    /** A court where witness 2 (HONESTY 3) said yes to a with a LAYER of 30 of four. */
    private static OnionCourt said(String law) {
        OnionCourt x = new OnionCourt();
        Checks.question(x, 3, "a");
        x.witness(2, 3);
        Checks.onion(x, 2, "30x4");
        x.weeks(2);
        due("law " + law, law.split(";").length, Checks.law(x, law));
        due("answers", 30, x.answers(2, 3, true, false));
        return x;
    }

    private static void byLetters() {
        likely("w", said("lw(1=1)"), 3, 1, 4, 5);
        likely("h", said("lh(1=1)"), 3, 1, 7, 10);
        likely("s", said("ls/10(1=1)"), 3, 1, 7, 10);
        likely("j", said("lj(1=1)"), 3, 1, 3, 5);
        likely("k", said("lk(1=1)"), 3, 1, 7, 10);
        likely("t", said("lt(1=1)"), 3, 1, 4, 5);
        likely("f", said("l2+f*5(1=1)"), 3, 1, 3, 5);
        likely("z is 0 in l", said("l2+z*5(1=1)"), 3, 1, 4, 5);
        likely("f in C", said("l7(f=1);l2(1=1)"), 3, 1, 3, 5);
        likely("w in c", said("l5(1=1);cw*f(1=1)"), 3, 1, 4, 9);
        likely("h in c", said("l5(1=1);ch*f(1=1)"), 3, 1, 7, 17);
        likely("s in c", said("l5(1=1);cs/10*f(1=1)"), 3, 1, 7, 17);
        likely("j in c", said("l5(1=1);cj*f(1=1)"), 3, 1, 3, 8);
        likely("k in c", said("l5(1=1);ck*f(1=1)"), 3, 1, 7, 17);
        likely("t in c", said("l5(1=1);ct*f(1=1)"), 3, 1, 4, 9);
        likely("z in c", said("l5(1=1);cz*5(1=1)"), 3, 1, 2, 3);
        likely("no LAW: none lies", said("g1(1=1)"), 3, 1, 1, 1);
        OnionCourt z = said("l2+z*5(1=1)");
        z.answers(2, 3, true, false);
        likely("z is 0 in l, behind another ANSWER, too", z, 3, 3, 16, 17);
        OnionCourt x = said("l2+f*5(1=1)");
        x.answers(2, 3, false, false);
        likely("no", x, 3, 2, 7, 15);
        likely("yes and no", x, 3, 3, 21, 37);
    }

    private static void asItWasAtTheAnswer() {
        OnionCourt x = said("lh(1=1)");
        x.witness(2, 8);
        likely("HONESTY then", x, 3, 1, 7, 10);
        Checks.onion(x, 2, "9");
        due("by a TRANSCRIPT", 2, Checks.transcript(x, "2D+"));
        x.witness(2, 1);
        likely("HONESTY then", x, 3, 1, 7, 10);
        likely("HONESTY at the TRANSCRIPT", x, 3, 2, 1, 5);
        x.keep();
        x.undo();
        likely("HONESTY as KEPT", x, 3, 3, 7, 19);
        Checks.law(x, "lt(1=1)");
        Checks.onion(x, 2, "70x2");
        x.weeks(5);
        likely("THE WEEK then", x, 3, 1, 4, 5);
        Checks.law(x, "ls/10(1=1)");
        likely("STRENGTH then", x, 3, 1, 7, 10);
        Checks.law(x, "lj(1=1)");
        likely("LAYERS then", x, 3, 1, 3, 5);
        Checks.question(x, 3, "a&b");
        likely("the QUESTION as it is now", x, 3, 1, 1, 3);
        Checks.question(x, 4, "a");
        Checks.law(x, "l2(k=3);l9(1=1)");
        likely("another QUESTION by the ANSWER", x, 4, 1, 5, 7);
    }

    private static void byTears() {
        OnionCourt x = TestCourt.made();
        x.answers(0, 0, true, true);
        x.answers(0, 0, true, false);
        x.answers(0, 0, false, true);
        Checks.law(x, "l3(1=1);c2+z*4(1=1)");
        likely("cried", x, 0, 1, 7, 16);
        likely("not cried", x, 0, 2, 14, 17);
        likely("no, cried", x, 0, 4, 9, 16);
        Checks.law(x, "l3(1=1);cf*3+1(1=1)");
        likely("f in c", x, 0, 1, 28, 31);
        Checks.law(x, "l3(1=1);c9(f=0&z=1);c3(f=1&z=0);c1(1=1)");
        likely("f and z in c", x, 0, 1, 7, 16);
        likely("f and z in c, no", x, 0, 4, 3, 10);
    }

    private static void largeNumbers() {
        OnionCourt x = TestCourt.made();
        Checks.law(x, "l3(1=1);c7(1=1)");
        for (int i = 0; i < 6; i++) {
            x.answers(0, 0, true, true);
        }
        likely("7 to 3 six times", x, 0, 63, 117649, 118378);
        likely("a&b", x, 1, 63, 117649, 236756);
        Checks.question(x, 0, "a&b&c&d&e");
        for (int i = 0; i < 5; i++) {
            x.prior(i, 7);
        }
        Checks.law(x, "l3(1=1);c1(1=1)");
        likely("no common divisor", x, 0, 1, 117649, 367228);
        for (int i = 0; i < 5; i++) {
            x.prior(i, 5);
        }
        Checks.question(x, 0, "a");
        Checks.law(x, "l10*f(1=1);c10(1=1)");
        x.prior(0, 3);
        likely("nobody is left", x, 0, 63, -2, -2);
        Checks.law(x, "l9-9*f(1=1);c10-3*z(1=1)");
        likely("63 hundredths six times", x, 0, 63, 1000000000000L, 1000000000000L + 7L * 20841167403L);
    }

    /** Six ANSWERS that leave next to nothing of what a long can hold: 9^17 of 9^17 + 40951 * 7^6. */
    private static void largestNumbers() {
        OnionCourt x = TestCourt.made();
        Checks.question(x, 0, "a&b&c&d&e");
        for (int i = 0; i < 5; i++) {
            x.prior(i, 9);
        }
        Checks.law(x, "l1(1=1);c9(z=0);c7(1=1)");
        for (int i = 0; i < 6; i++) {
            x.answers(0, 0, true, true);
        }
        likely("six", x, 0, 63, 16677181699666569L, 16677181699666569L + 40951L * 117649);
        due("a lie in the last", 40951L * 117649, x.lie(5, 63, 0));
        for (int i = 0; i < 5; i++) {
            x.prior(i, 10);
        }
        Checks.law(x, "c10(1=1)");
        likely("10^17 of 10^17", x, 0, 63, 1, 1);
        due("WORLD", 31, x.world(63, 0));
        due("FACTS", 31, x.world(63, 1));
        due("the lowest", 0, x.askNext(63));
    }

    /** All weights together are 1, in the last WORLD: that is not yet 0. */
    private static void smallestNumbers() {
        OnionCourt x = TestCourt.made();
        Checks.question(x, 0, "a&b&c&d&e");
        for (int i = 0; i < 5; i++) {
            x.prior(i, 1);
        }
        Checks.law(x, "l9(f=1);c9(1=1)");
        x.answers(0, 0, true, false);
        likely("it holds", x, 0, 1, 1, 1);
        likely("!a", x, 4, 1, 0, 1);
        due("no lie", 0, x.lie(0, 1, 0));
        due("no lie", 1, x.lie(0, 1, 1));
        due("WORLD", 31, x.world(1, 0));
        due("FACTS", 31, x.world(1, 1));
        due("the lowest", 0, x.askNext(1));
        x.prior(2, 0);
        likely("it can't be", x, 0, 1, -2, -2);
        due("it can't be", -2, x.world(1, 0));
        due("it can't be", -2, x.askNext(1));
    }

    /** The first and the last bits there can be. */
    private static void twentyAnswers() {
        OnionCourt x = TestCourt.made();
        Checks.transcript(x, TestCourt.times(10, "0A+;1E+", ";"));
        Checks.law(x, "l2+w(1=1)");
        likely("the 20th", x, 0, 1 << 19, 3, 10);
        likely("the first", x, 0, 1, 4, 5);
        likely("six of them", x, 0, 0xFC000, 4 * 4 * 4 * 3 * 3 * 3, 4 * 4 * 4 * 27 + 343);
        likely("seven of them", x, 0, 0xFE000, -1, -1);
        likely("a 21st", x, 0, 1 << 20, -1, -1);
        due("a lie in the 20th", 3, x.lie(19, 1 << 19, 0));
        due("a lie in a 21st", -1, x.lie(20, 0, 0));
        due("WORLD by the 20th", 0, x.world(1 << 19, 0));
        due("WORLD by a 21st", -1, x.world(1 << 20, 0));
        due("askNext by the 20th", 3, x.askNext(1 << 19));
        due("askNext by a 21st", -1, x.askNext(1 << 20));
        x.strike();
        likely("struck out", x, 0, 1 << 19, -1, -1);
        due("struck out", -1, x.lie(19, 0, 0));
    }

    private static void atTheLastWeek() {
        OnionCourt x = TestCourt.made();
        for (int i = 0; i < 17; i++) {
            x.weeks(60);
        }
        x.answers(0, 0, true, false);
        due("THE WEEK", 999, x.answerIs(0, 6));
        Checks.law(x, "l3(t=999)");
        likely("t at the last WEEK", x, 0, 1, 7, 10);
    }

    private static void cannotBe() {
        OnionCourt x = TestCourt.made();
        x.answers(0, 0, true, false);
        x.answers(0, 0, false, false);
        x.answers(0, 0, true, true);
        likely("one says both", x, 0, 3, -2, -2);
        likely("one cries, by no LAW", x, 0, 4, -2, -2);
        due("lie", -2, x.lie(0, 3, 0));
        due("lie", -2, x.lie(2, 3, 1));
        due("world", -2, x.world(3, 0));
        due("world", -2, x.world(4, 1));
        due("askNext", -2, x.askNext(3));
        x.prior(0, 0);
        due("no WORLD with a", -2, x.likely(0, 1, 0));
        due("no such ones first", -1, x.likely(5, 3, 0));
        due("no such ones first", -1, x.likely(0, 3, 2));
    }

    /** Ten ANSWERS, of which not more than six are weighed. */
    private static OnionCourt ten() {
        OnionCourt x = TestCourt.made();
        Checks.law(x, "l4(1=1);c4(1=1)");
        for (int i = 0; i < 10; i++) {
            x.answers(i % 2, i % 5, true, i % 3 == 0);
        }
        return x;
    }

    private static final int[] NOT_WEIGHED = {127, 1023, 1024, 1 << 20, 1 << 31, -1, HIGH, 1 << 30 | 1, 0x3F8, 0x401};

    private static void likelyRefused() {
        OnionCourt x = ten();
        int[][] none = {{5, 0, 0}, {-1, 0, 0}, {8, 0, 0}, {LOW, 0, 0}, {HIGH, 0, 0}, {32, 0, 0}, {0, 0, 2}, {0, 0, -1}, {0, 0, HIGH}};
        for (int[] one : none) {
            due("likely " + one[0] + " " + one[2], -1, x.likely(one[0], one[1], one[2]));
        }
        for (int bits : NOT_WEIGHED) {
            due("likely by " + bits, -1, x.likely(0, bits, 0));
            due("lie by " + bits, -1, x.lie(0, bits, 0));
            due("world by " + bits, -1, x.world(bits, 0));
            due("askNext by " + bits, -1, x.askNext(bits));
        }
        due("six", 1, x.likely(0, 0x3F0, 0) > 0 ? 1 : 0);
    }

    private static void lie() {
        OnionCourt x = TestCourt.made();
        Checks.law(x, "l10-h(1=1);c8(z=1);c2(1=1)");
        x.answers(0, 0, true, false);
        x.answers(1, 4, true, true);
        due("0 by the own", 1, x.lie(0, 1, 0));
        due("0 by the own", 37, x.lie(0, 1, 1));
        due("1 by both", 576, x.lie(1, 3, 0));
        due("1 by both", 577, x.lie(1, 3, 1));
        due("0 by both", 1, x.lie(0, 3, 0));
        due("0 by both", 577, x.lie(0, 3, 1));
        due("0 by the other", 1, x.lie(0, 2, 0));
        due("0 by the other", 17, x.lie(0, 2, 1));
        due("1 by none", 1, x.lie(1, 0, 0));
        due("1 by none", 2, x.lie(1, 0, 1));
        x.prior(0, 10);
        due("surely", 1, x.lie(1, 0, 0));
        due("surely", 1, x.lie(1, 0, 1));
        due("surely not", 0, x.lie(0, 0, 0));
        due("surely not", 1, x.lie(0, 0, 1));
        x.prior(0, 3);
        x.answers(0, 1, false, false);
        due("no to a&b", 3, x.lie(2, 0, 0));
        due("no to a&b", 20, x.lie(2, 0, 1));
    }

    private static void lieRefused() {
        OnionCourt x = ten();
        int[][] none = {{10, 0}, {-1, 0}, {20, 0}, {LOW, 0}, {HIGH, 0}, {0, 2}, {0, -1}, {0, LOW}};
        for (int[] one : none) {
            due("lie " + one[0] + " " + one[1], -1, x.lie(one[0], 0, one[1]));
        }
        due("the last", 1, x.lie(9, 63, 1) > 0 ? 1 : 0);
    }

    private static void world() {
        OnionCourt x = TestCourt.made();
        due("of like ones the least", 0, x.world(0, 0));
        x.prior(0, 7);
        x.prior(1, 3);
        x.prior(2, 6);
        due("a and c", 5, x.world(0, 0));
        x.prior(3, 10);
        x.prior(4, 6);
        due("all but b", 29, x.world(0, 0));
        Checks.law(x, "l1(1=1)");
        x.answers(0, 4, true, false);
        due("not a", 28, x.world(1, 0));
        x.answers(1, 1, true, false);
        due("a and b by the other", 31, x.world(2, 0));
        due("by both", 28, x.world(3, 0));
    }

    private static void worldFacts() {
        OnionCourt x = TestCourt.made();
        due("a half is not more", 0, x.world(0, 1));
        int[] tenths = {6, 4, 10, 0, 9};
        for (int i = 0; i < 5; i++) {
            x.prior(i, tenths[i]);
        }
        due("a, c and e", 21, x.world(0, 1));
        OnionCourt y = TestCourt.made();
        y.answers(0, 2, true, false);
        due("a|b: the least of like ones", 1, y.world(1, 0));
        due("a|b: a and b with two thirds each", 3, y.world(1, 1));
        Checks.question(y, 2, "e&!d");
        due("e without d", 16, y.world(1, 0));
        due("e without d", 16, y.world(1, 1));
    }

    private static void worldRefused() {
        OnionCourt x = ten();
        for (int what : new int[] {2, -1, 20, LOW, HIGH}) {
            due("world " + what, -1, x.world(0, what));
        }
    }

    private static void askNext() {
        OnionCourt x = new OnionCourt();
        due("none is told", -2, x.askNext(0));
        Checks.question(x, 6, "a&b&c");
        due("the only one", 6, x.askNext(0));
        Checks.question(x, 3, "a&b");
        due("a quarter", 3, x.askNext(0));
        Checks.question(x, 4, "a|b");
        due("three quarters are as near: the lowest", 3, x.askNext(0));
        Checks.question(x, 2, "a|b");
        due("the lowest", 2, x.askNext(0));
        Checks.question(x, 7, "e");
        due("a half", 7, x.askNext(0));
        x.prior(4, 8);
        due("three quarters are nearer than eight tenths", 2, x.askNext(0));
        x.prior(4, 7);
        due("seven tenths", 7, x.askNext(0));
        x.witness(0, 0);
        Checks.onion(x, 0, "5");
        Checks.law(x, "l1(1=1)");
        x.answers(0, 7, true, false);
        due("by the ANSWER", 2, x.askNext(1));
        due("not by it", 7, x.askNext(0));
        Checks.question(x, 0, "a");
        due("the very first", 0, x.askNext(0));
    }

    private static void askNextRefused() {
        OnionCourt x = new OnionCourt();
        for (int bits : new int[] {1, -1, LOW, HIGH, 1 << 20, 1 << 5}) {
            due("no such ANSWERS", -1, x.askNext(bits));
        }
    }
}
