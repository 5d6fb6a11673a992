/** Promises 1 to 4 and 29 to 33: what an object holds, the tape, what is kept, what is counted. */
public final class StateTest {
    private static final int LOW = Integer.MIN_VALUE;
    private static final int HIGH = Integer.MAX_VALUE;

    private StateTest() {
    }

    public static void main(String[] args) {
        newObject();
        prior();
        witness();
        feed();
        feedFull();
        seed();
        keepAndUndo();
        keepIsACopy();
        check();
        checkRefused();
        count();
        Checks.end("StateTest");
    }

    private static void due(String call, long want, long got) {
        Checks.due(call, want, got);
    }

    private static void due(String call, boolean want, boolean got) {
        Checks.due(call, want, got);
    }

    private static void newObject() {
        OnionCourt x = new OnionCourt();
        for (int what = 0; what <= 5; what++) {
            due("new count " + what, 0, x.count(what));
        }
        due("new X", 1, x.count(6));
        for (int i = 0; i < 5; i++) {
            due("new PRIOR", 5, x.count(10 + i));
        }
        due("no WITNESS", -1, x.witnessIs(0, 0));
        due("no QUESTION", -1, x.count(20));
        due("no ANSWER", -1, x.answerIs(0, 0));
        due("none was KEPT", false, x.undo());
        due("NONE", -1, OnionCourt.NONE);
        OnionCourt other = new OnionCourt();
        other.witness(3, 3);
        other.prior(0, 9);
        due("nothing is shared", 0, x.count(2));
        due("nothing is shared", 5, x.count(10));
    }

    private static void prior() {
        OnionCourt x = new OnionCourt();
        due("prior 0 0", true, x.prior(0, 0));
        due("prior 4 10", true, x.prior(4, 10));
        due("prior 2 3", true, x.prior(2, 3));
        due("prior -1", false, x.prior(-1, 5));
        due("prior 5", false, x.prior(5, 5));
        due("tenths -1", false, x.prior(1, -1));
        due("tenths 11", false, x.prior(1, 11));
        due("far", false, x.prior(LOW, HIGH));
        due("far", false, x.prior(HIGH, 5));
        due("far", false, x.prior(LOW, 5));
        due("far", false, x.prior(1, HIGH));
        due("far", false, x.prior(1, LOW));
        int[] want = {0, 5, 3, 5, 10};
        for (int i = 0; i < 5; i++) {
            due("PRIOR " + i, want[i], x.count(10 + i));
        }
        Checks.question(x, 0, "c");
        due("c", 3, x.likely(0, 0, 0));
        due("c", 10, x.likely(0, 0, 1));
    }

    private static void witness() {
        OnionCourt x = new OnionCourt();
        due("witness 0 0", true, x.witness(0, 0));
        due("witness 9 9", true, x.witness(9, 9));
        due("witness 10", false, x.witness(10, 0));
        due("witness -1", false, x.witness(-1, 0));
        due("honesty 10", false, x.witness(1, 10));
        due("honesty -1", false, x.witness(1, -1));
        due("far", false, x.witness(HIGH, LOW));
        due("far", false, x.witness(HIGH, 0));
        due("far", false, x.witness(LOW, 0));
        due("far", false, x.witness(1, HIGH));
        due("far", false, x.witness(1, LOW));
        due("told", 1 | 1 << 9, x.count(2));
        Checks.question(x, 0, "a");
        Checks.onion(x, 0, "7,8");
        x.answers(0, 0, true, true);
        due("in place", true, x.witness(0, 6));
        due("HONESTY", 6, x.witnessIs(0, 0));
        due("no ONION", 0, x.witnessIs(0, 1));
        due("its ANSWERS stay", 1, x.witnessIs(0, 5));
        due("its TEARS stay", 1, x.witnessIs(0, 4));
        due("ANSWERS stay", 1, x.count(1));
        Checks.onion(x, 0, "7,8");
        due("refused", false, x.witness(0, 12));
        due("the HONESTY stays", 6, x.witnessIs(0, 0));
        due("the ONION stays", 2, x.witnessIs(0, 1));
    }

    private static void feed() {
        OnionCourt x = new OnionCourt();
        x.witness(0, 0);
        due("feed", 20, x.feed(0x31303061, 0, 0, 0, 0));
        due("twenty bytes", 20, x.count(5));
        due("behind the tape", 40, x.feed(-1, -1, -1, -1, -1));
        due("the highest byte first", -1002, x.onion(0, 3));
        due("empty then", 0, x.count(5));
        Checks.onion(x, 0, "1,2,3,4,5,6,7,8,9,10,11,12");
        x.feed(0x01020304, 0x05060708, 0x090A0B0C, 0, 0);
        due("in order", -1, x.check(0, 12));
        x.feed(0x0A0A0A0A, 0x0A0A0A0A, 0x0A0A0A0A, 0x0A0B0A0B, 0x0A0B0A80);
        x.feed(0x0A00FF00, 0, 0, 0, 0);
        due("d and e, and the next feed", 1 | 1 << 1 | 1 << 2 | 1 << 3 | 1 << 4 | 1 << 5, x.seen(11, 0, 1));
        x.feed(0x0A80FFFF, 0, 0, 0, 0);
        due("bytes are 0 to 255", 1, x.seen(2, 0, 0));
        x.feed(0x0A800AFF, 0, 0, 0, 0);
        due("128 and 255", 1, x.seen(2, 99, 0));
    }

    private static void feedFull() {
        OnionCourt x = new OnionCourt();
        x.witness(0, 0);
        for (int i = 1; i <= 13; i++) {
            due("feed " + i, 20 * i, x.feed(-1, LOW, HIGH, 7, 0));
        }
        due("more than 260", -1, x.feed(0x35353535, 2, 3, 4, 5));
        due("the tape stays", 260, x.count(5));
        due("the first byte stays", -1000, x.onion(0, 1));
        due("empty then", 0, x.count(5));
        due("room again", 20, x.feed(1, 2, 3, 4, 5));
    }

    private static void seed() {
        OnionCourt x = new OnionCourt();
        due("seed 0", true, x.seed(0));
        due("X, too", 0, x.count(6));
        due("seed 65535", true, x.seed(65535));
        due("X, too", 65535, x.count(6));
        due("seed 65536", false, x.seed(65536));
        due("seed -1", false, x.seed(-1));
        due("far", false, x.seed(LOW));
        due("X stays", 65535, x.count(6));
        x.witness(0, 0);
        Checks.onion(x, 0, "5");
        x.weeks(1);
        due("25173 * 65535 + 13849 modulo 65536", 54212, x.count(6));
    }

    private static void keepAndUndo() {
        OnionCourt x = TestCourt.made();
        due("none was KEPT", false, x.undo());
        due("none is changed", 3, x.count(2));
        x.answers(0, 0, true, true);
        x.weeks(2);
        int drawn = x.count(6);
        due("keep", 1, x.keep());
        x.witness(0, 3);
        x.witness(5, 5);
        x.answers(1, 1, false, false);
        x.weeks(3);
        x.prior(0, 9);
        Checks.law(x, "l1(1=1)");
        Checks.question(x, 7, "e");
        x.feed(1, 2, 3, 4, 5);
        due("undo", true, x.undo());
        due("THE WEEK", 2, x.count(0));
        due("ANSWERS", 1, x.count(1));
        due("WITNESSES", 3, x.count(2));
        due("HONESTY", 9, x.witnessIs(0, 0));
        due("ONIONS", 11, x.witnessIs(0, 1));
        due("ONIONS", 12, x.witnessIs(1, 1));
        due("X", drawn, x.count(6));
        due("QUESTIONS stay", 31 | 1 << 7, x.count(3));
        due("THE LAW stays", 1, x.count(4));
        due("the tape stays", 20, x.count(5));
        due("PRIORS stay", 9, x.count(10));
        due("the ANSWER", 0, x.answerIs(0, 6));
        due("its STRENGTH", 50, x.answerIs(0, 4));
    }

    private static void keepIsACopy() {
        OnionCourt x = TestCourt.made();
        due("keep", 0, x.keep());
        x.answers(0, 0, true, true);
        x.undo();
        due("undone", 0, x.count(1));
        x.answers(1, 4, false, true);
        x.answers(1, 4, false, true);
        due("undo again", true, x.undo());
        due("undone again", 0, x.count(1));
        due("LAYERS again", 12, x.witnessIs(1, 1));
        x.answers(1, 4, false, true);
        due("KEPT last", 1, x.keep());
        x.strike();
        x.undo();
        due("KEPT last", 1, x.count(1));
        due("KEPT last", 1, x.answerIs(0, 0));
        due("KEPT last", 11, x.witnessIs(1, 1));
        x.seed(7);
        x.keep();
        x.seed(9);
        x.undo();
        due("X as KEPT", 7, x.count(6));
    }

    private static void check() {
        OnionCourt x = new OnionCourt();
        x.witness(2, 1);
        due("no LAYERS, no bytes", -1, Checks.check(x, 2, ""));
        due("no LAYERS, 0", -1, Checks.check(x, 2, Checks.bytes(0)));
        due("no LAYERS, 1", 0, Checks.check(x, 2, Checks.bytes(1)));
        Checks.onion(x, 2, "50,10x2");
        due("right", -1, Checks.check(x, 2, Checks.bytes(50, 10, 10)));
        due("0 behind", -1, Checks.check(x, 2, Checks.bytes(50, 10, 10, 0, 0)));
        due("not 0 behind", 4, Checks.check(x, 2, Checks.bytes(50, 10, 10, 0, 10)));
        due("the first", 0, Checks.check(x, 2, Checks.bytes(51, 11, 11)));
        due("the second", 1, Checks.check(x, 2, Checks.bytes(50, 11, 11)));
        due("the third", 2, Checks.check(x, 2, Checks.bytes(50, 10, 9)));
        due("the first n bytes", -1, Checks.check(x, 2, Checks.bytes(50, 10)));
        x.feed(0x320A0AFF, -1, -1, -1, -1);
        due("n 0", -1, x.check(2, 0));
        due("empty then", 0, x.count(5));
        Checks.onion(x, 2, "1,2,3,4,5,6,7,8,9,10,11,12");
        due("12", -1, Checks.check(x, 2, Checks.bytes(1, 2, 3, 4, 5, 6, 7, 8, 9, 10, 11, 12)));
        due("12th", 11, Checks.check(x, 2, Checks.bytes(1, 2, 3, 4, 5, 6, 7, 8, 9, 10, 11, 13)));
        due("empty then", 0, x.count(5));
        due("128 above", 11, Checks.check(x, 2, Checks.bytes(1, 2, 3, 4, 5, 6, 7, 8, 9, 10, 11, 140)));
    }

    private static void checkRefused() {
        OnionCourt x = new OnionCourt();
        x.witness(2, 1);
        x.feed(0, 0, 0, 0, 0);
        due("not told", -2, x.check(1, 1));
        due("w -1", -2, x.check(-1, 1));
        due("w 10", -2, x.check(10, 1));
        due("n 13", -2, x.check(2, 13));
        due("n -1", -2, x.check(2, -1));
        due("far", -2, x.check(LOW, HIGH));
        due("the tape stays", 20, x.count(5));
        due("right", -1, x.check(2, 12));
        due("it has not so many", -2, x.check(2, 1));
    }

    private static void count() {
        OnionCourt x = TestCourt.made();
        Checks.law(x, "l1(1=1);c1(1=1)");
        x.answers(0, 0, true, false);
        x.prior(4, 1);
        x.weeks(1);
        x.feed(0, 0, 0, 0, 0);
        int[] want = {1, 1, 3, 31, 2, 20};
        for (int what = 0; what < want.length; what++) {
            due("count " + what, want[what], x.count(what));
        }
        int[] holds = {16, 8, 24, 16, 16, -1, -1, -1};
        for (int k = 0; k < holds.length; k++) {
            due("count " + (20 + k), holds[k], x.count(20 + k));
        }
        due("PRIOR", 1, x.count(14));
        due("from what is left on the tape", -1000, x.question(7, 1));
        Checks.question(x, 7, "0");
        due("never", 0, x.count(27));
        for (int what : new int[] {-1, 7, 8, 9, 15, 19, 28, 52, LOW, HIGH}) {
            due("count " + what, -1, x.count(what));
        }
    }
}
