import java.util.function.ToLongFunction;

/**
 * A call that is refused changes nothing but the tape, where it is told. Of two courts that came about alike, one hears the
 * call: all that other calls show afterwards must be the same, what was KEPT and what WEEKS bring included.
 */
public final class RefusedTest {
    private static final String ON_TAPE = "(a|b)&!c^d";

    private RefusedTest() {
    }

    public static void main(String[] args) {
        newCourt();
        numbers();
        answersRefused();
        answersWhenFull();
        weeksAtTheEnd();
        textsOfNoSuchLength();
        lawFaults();
        questionFaults();
        onionFaults();
        transcriptFaults();
        transcriptWhenFull();
        boxesAndAlibis();
        boxesThatTakeTheTape();
        askedInVain();
        askedWell();
        Checks.end("RefusedTest");
    }

    private interface Call extends ToLongFunction<OnionCourt> {
    }

    /** Some of everything: a LAW, ANSWERS of three WITNESSES, one without an ONION, PRIORS, a state that was KEPT and gone on from. */
    private static OnionCourt court() {
        OnionCourt x = TestCourt.made();
        x.witness(3, 5);
        x.witness(9, 1);
        Checks.onion(x, 9, "70,60,50");
        x.prior(1, 3);
        x.prior(4, 8);
        Checks.law(x, "l10-h(1=1);c8(z=1);c2(1=1);g3(s<50);y2(s>50);b4(1=1)");
        x.answers(0, 0, true, false);
        x.answers(1, 4, true, true);
        x.answers(9, 1, false, false);
        x.weeks(2);
        x.seed(777);
        x.keep();
        x.answers(9, 0, true, true);
        Checks.transcript(x, "0B-*;1D+");
        x.weeks(1);
        return x;
    }

    /** With 20 ANSWERS; WITNESS 0 has no LAYER left. */
    private static OnionCourt full() {
        OnionCourt x = TestCourt.made();
        Checks.transcript(x, TestCourt.times(12, "0A+", ";"));
        Checks.transcript(x, TestCourt.times(8, "1E-*", ";"));
        x.keep();
        return x;
    }

    private static OnionCourt made(boolean isFull) {
        OnionCourt x = isFull ? full() : court();
        Checks.feed(x, ON_TAPE);
        return x;
    }

    private static void refused(String call, long want, Call how) {
        same(call, want, how, false, false);
    }

    private static void refusedWhenFull(String call, long want, Call how) {
        same(call, want, how, true, false);
    }

    /** The tape is empty then: so is that of the twin, by a CHECK of nothing. */
    private static void emptied(String call, long want, Call how) {
        same(call, want, how, false, true);
    }

    private static void same(String call, long want, Call how, boolean isFull, boolean isEmptied) {
        OnionCourt one = made(isFull);
        OnionCourt other = made(isFull);
        Checks.due(call, want, how.applyAsLong(one));
        if (isEmptied) {
            other.check(0, 0);
        }
        Checks.due(call + ": the tape", isEmptied ? 0 : 20, one.count(5));
        Checks.due(call + ": all is as it was", true, shown(one).equals(shown(other)));
    }

    /** Texts are fed to an empty tape, and are gone then. */
    private static void faulty(String text, long want, Call how) {
        emptied(text, want, x -> {
            x.check(0, 0);
            Checks.feed(x, text);
            return how.applyAsLong(x);
        });
    }

    /** All that can be asked, in less than 400 calls. */
    private static String shown(OnionCourt x) {
        StringBuilder all = new StringBuilder();
        showState(all, x);
        for (int k = 0; k < 5; k++) {
            all.append(x.likely(k, 47, 0)).append(' ').append(x.likely(k, 5, 1)).append(' ').append(x.tears(k)).append(' ');
        }
        all.append(x.lie(1, 15, 0)).append(' ').append(x.world(31, 0)).append(' ').append(x.world(7, 1)).append(' ').append(x.askNext(3));
        all.append(' ').append(x.ifTrue(11)).append(' ').append(x.liars(1)).append(' ').append(x.against()).append(' ').append(x.follows(5, 0));
        all.append(' ').append(x.agree(0, 1, 0)).append(' ').append(x.agree(0, 1, 1)).append(' ').append(x.onionsFor(3, 20)).append("; ");
        all.append(x.question(7, ON_TAPE.length())).append("; ");
        x.tried(2, 0);
        x.weeks(2);
        showState(all, x);
        all.append(x.undo());
        showState(all, x);
        return all.toString();
    }

    private static void showState(StringBuilder all, OnionCourt x) {
        for (int what = 0; what < 28; what++) {
            all.append(x.count(what)).append(' ');
        }
        for (int w : new int[] {0, 1, 3, 4, 9}) {
            for (int what = 0; what < 6; what++) {
                all.append(x.witnessIs(w, what)).append(' ');
            }
            all.append(x.peeled(w, 1)).append(' ').append(x.peeled(w, 3)).append(' ');
        }
        for (int i = 0; i < 20; i++) {
            all.append(x.answerIs(i, 1)).append(x.answerIs(i, 4)).append(' ');
        }
        all.append("; ");
    }

    /** On a court in which nothing is told, everything that needs something told is refused. */
    private static void newCourt() {
        Call[] calls = {x -> x.onion(0, 1), x -> x.answers(0, 0, true, true), x -> x.answerIs(0, 0), x -> x.witnessIs(0, 0),
            x -> x.likely(0, 0, 0), x -> x.lie(0, 0, 0), x -> x.agree(0, 1, 0), x -> x.tears(0), x -> x.onionsFor(3, 20),
            x -> x.peeled(0, 1), x -> x.tried(1, 10), x -> x.tried(1, 20), x -> x.count(20), x -> x.world(1, 0), x -> x.ifTrue(1),
            x -> x.follows(1, 0), x -> x.askNext(1), x -> x.law(1), x -> x.question(0, 1), x -> x.transcript(1), x -> x.seen(1, 1, 0),
            x -> x.skins(1, 1, 20)};
        OnionCourt x = new OnionCourt();
        for (int i = 0; i < calls.length; i++) {
            Checks.due("new, call " + i, -1, calls[i].applyAsLong(x));
        }
        Checks.due("new, strike", -2, x.strike());
        Checks.due("new, askNext", -2, x.askNext(0));
        Checks.due("new, check", -2, x.check(0, 0));
        Checks.due("new, undo", false, x.undo());
        Checks.due("still as new", true, shown(x).equals(shown(new OnionCourt())));
    }

    private static void numbers() {
        refused("prior 5", 0, x -> x.prior(5, 1) ? 1 : 0);
        refused("prior -1", 0, x -> x.prior(-1, 1) ? 1 : 0);
        refused("tenths 11", 0, x -> x.prior(1, 11) ? 1 : 0);
        refused("tenths -1", 0, x -> x.prior(1, -1) ? 1 : 0);
        refused("witness 10", 0, x -> x.witness(10, 1) ? 1 : 0);
        refused("witness -1", 0, x -> x.witness(-1, 1) ? 1 : 0);
        refused("honesty 10", 0, x -> x.witness(0, 10) ? 1 : 0);
        refused("honesty -1", 0, x -> x.witness(0, -1) ? 1 : 0);
        refused("honesty 10 of one not told", 0, x -> x.witness(4, 10) ? 1 : 0);
        refused("seed 65536", 0, x -> x.seed(65536) ? 1 : 0);
        refused("seed -1", 0, x -> x.seed(-1) ? 1 : 0);
        refused("weeks 0", -1, x -> x.weeks(0));
        refused("weeks 61", -1, x -> x.weeks(61));
        refused("weeks -1", -1, x -> x.weeks(-1));
        OnionCourt one = court();
        OnionCourt other = court();
        for (int i = 0; i < 13; i++) {
            one.feed(i, i, i, i, i);
            other.feed(i, i, i, i, i);
        }
        Checks.due("feed of a full tape", -1, one.feed(-1, -1, -1, -1, -1));
        Checks.due("all is as it was", true, shown(one).equals(shown(other)));
    }

    private static void answersRefused() {
        refused("answers of 4", -1, x -> x.answers(4, 0, true, true));
        refused("answers of 10", -1, x -> x.answers(10, 0, true, true));
        refused("answers of -1", -1, x -> x.answers(-1, 0, true, true));
        refused("answers to 5", -1, x -> x.answers(0, 5, true, true));
        refused("answers to 8", -1, x -> x.answers(0, 8, true, true));
        refused("answers to -1", -1, x -> x.answers(0, -1, true, true));
        refused("answers without LAYERS", -3, x -> x.answers(3, 0, true, true));
        refused("answers without LAYERS to 5", -1, x -> x.answers(3, 5, true, true));
    }

    private static void answersWhenFull() {
        refusedWhenFull("a 21st", -2, x -> x.answers(1, 0, true, true));
        refusedWhenFull("a 21st without LAYERS", -2, x -> x.answers(0, 0, true, true));
        refusedWhenFull("a 21st of 4", -1, x -> x.answers(4, 0, true, true));
        refusedWhenFull("a 21st to 5", -1, x -> x.answers(1, 5, true, true));
    }

    private static void weeksAtTheEnd() {
        OnionCourt one = court();
        OnionCourt other = court();
        for (int i = 0; i < 17; i++) {
            one.weeks(60);
            other.weeks(60);
        }
        Checks.due("none goes by", 0, one.weeks(60));
        Checks.due("none is tried", 0, one.tried(60, 1));
        Checks.due("all is as it was", true, shown(one).equals(shown(other)));
    }

    private static void textsOfNoSuchLength() {
        int[] lengths = {0, -1, 21, 101, 241, 261, Integer.MIN_VALUE, Integer.MAX_VALUE};
        for (int n : lengths) {
            refused("law " + n, -1, x -> x.law(n));
            refused("question " + n, -1, x -> x.question(0, n));
            refused("onion " + n, -1, x -> x.onion(0, n));
            refused("transcript " + n, -1, x -> x.transcript(n));
            refused("seen " + n, -1, x -> x.seen(n, 1, 0));
            refused("skins " + n, -1, x -> x.skins(n, 9, 20));
            refused("check " + n, -2, x -> x.check(n == 0 ? 4 : 0, n));
        }
        refused("question 8", -1, x -> x.question(8, 1));
        refused("question -1", -1, x -> x.question(-1, 1));
        refused("onion of 4", -1, x -> x.onion(4, 1));
        refused("onion of 10", -1, x -> x.onion(10, 1));
        refused("onion of -1", -1, x -> x.onion(-1, 1));
    }

    private static void lawFaults() {
        faulty("g", -1001, x -> x.law(1));
        faulty("g9(1=1);y9(1=2", -1014, x -> x.law(14));
        faulty("l9(1=1);c123456(1=1)", -2014, x -> x.law(20));
        faulty(TestCourt.times(17, "b9(1=1)", ";"), -4128, x -> x.law(135));
        faulty("g9(1=1);g[[[[[[[1]]]]]]](1=1)", -5015, x -> x.law(29));
    }

    private static void questionFaults() {
        faulty("a|", -1002, x -> x.question(0, 2));
        faulty("!!!!!!!a", -5006, x -> x.question(4, 8));
        faulty("e&e&", -1004, x -> x.question(5, 4));
    }

    private static void onionFaults() {
        faulty("9,", -1002, x -> x.onion(0, 2));
        faulty("9x9,8,0", -3006, x -> x.onion(1, 7));
        faulty("9x9,8x2,1x2", -6008, x -> x.onion(3, 11));
        faulty("1x1", -1002, x -> x.onion(9, 3));
    }

    private static void transcriptFaults() {
        faulty("0A+;1A+;", -1008, x -> x.transcript(8));
        faulty("0A+;1A+;4A+", -7008, x -> x.transcript(11));
        faulty("0A+;1A+;0F+", -7009, x -> x.transcript(11));
        faulty("0A+;1A+;3A+", -8008, x -> x.transcript(11));
        faulty("0A+;1A+*;0A*", -1011, x -> x.transcript(12));
        faulty(TestCourt.times(14, "0A+;1A-*", ";"), -4063, x -> x.transcript(100));
    }

    private static void transcriptWhenFull() {
        OnionCourt one = full();
        OnionCourt other = full();
        Checks.due("a 21st", -4000, Checks.transcript(one, "1A+"));
        Checks.due("all is as it was", true, shown(one).equals(shown(other)));
    }

    private static void boxesAndAlibis() {
        refused("seen at -1 an HOUR", -1, x -> x.seen(1, -1, 0));
        refused("seen at 100 an HOUR", -1, x -> x.seen(1, 100, 0));
        refused("seen, what 2", -1, x -> x.seen(1, 1, 2));
        refused("seen, what -1", -1, x -> x.seen(1, 1, -1));
        refused("seen 11 times, 20 bytes", -1, x -> x.seen(11, 1, 0));
        refused("seen 13 times", -1, x -> x.seen(13, 1, 0));
        refused("skins into 0", -1, x -> x.skins(1, 0, 20));
        refused("skins into 256", -1, x -> x.skins(1, 256, 20));
        refused("11 skins", -1, x -> x.skins(11, 9, 20));
        refused("check of 4", -2, x -> x.check(4, 1));
        refused("check of 10", -2, x -> x.check(10, 1));
        refused("check of -1", -2, x -> x.check(-1, 1));
        refused("check of 13 LAYERS", -2, x -> x.check(0, 13));
    }

    private static void boxesThatTakeTheTape() {
        emptied("one is too big", -2, x -> x.skins(1, ON_TAPE.charAt(0) - 1, 20));
        emptied("one is above 99", -2, x -> x.skins(6, 255, 20));
        emptied("no such place", -4, x -> x.skins(1, 99, 1));
        emptied("a skin", 0, x -> x.skins(1, 99, 0));
        emptied("seen", 1, x -> x.seen(1, 0, 0));
        emptied("check", 0, x -> x.check(0, 12));
        emptied("check of nothing", -1, x -> x.check(3, 0));
    }

    private static void askedInVain() {
        refused("likely of 5", -1, x -> x.likely(5, 0, 0));
        refused("likely by ANSWER 6", -1, x -> x.likely(0, 64, 0));
        refused("likely, what 2", -1, x -> x.likely(0, 0, 2));
        refused("lie in 6", -1, x -> x.lie(6, 0, 0));
        refused("world by ANSWER 6", -1, x -> x.world(64, 0));
        refused("world, what 2", -1, x -> x.world(0, 2));
        refused("askNext by ANSWER 6", -1, x -> x.askNext(64));
        refused("ifTrue by ANSWER 6", -1, x -> x.ifTrue(64));
        refused("liars, what 2", -1, x -> x.liars(2));
        refused("follows by ANSWER 6", -1, x -> x.follows(64, 0));
        refused("agree with oneself", -1, x -> x.agree(0, 0, 0));
        refused("tears at 5", -1, x -> x.tears(5));
        refused("onionsFor one", -1, x -> x.onionsFor(1, 20));
        refused("peeled 13", -1, x -> x.peeled(0, 13));
        refused("peeled without LAYERS", -2, x -> x.peeled(3, 1));
        refused("tried 61", -1, x -> x.tried(61, 0));
        refused("tried 0", -1, x -> x.tried(0, 0));
        refused("tried of 4", -1, x -> x.tried(1, 14));
        refused("count 28", -1, x -> x.count(28));
        refused("likely by seven", -1, x -> x.likely(0, 127, 0));
        refusedWhenFull("likely by seven of twenty", -1, x -> x.likely(0, 127 << 13, 0));
        refusedWhenFull("ANSWER 20", -1, x -> x.answerIs(20, 0));
    }

    /** To ask is not to change. */
    private static void askedWell() {
        refused("likely", 1, x -> Math.min(1, x.likely(0, 63, 1)));
        refused("lie", 1, x -> Math.min(1, x.lie(0, 63, 1)));
        refused("tried", 1, x -> Math.min(1, x.tried(60, 0)));
        refused("world", 17, x -> x.world(1, 0));
        refused("onionsFor", 0, x -> x.onionsFor(3 | 1 << 3 | 1 << 9, 0));
        refused("peeled", 100, x -> x.peeled(0, 2));
        refused("the 20th", -1, x -> x.answerIs(19, 0));
        refusedWhenFull("the 20th", 1, x -> x.answerIs(19, 0));
        refusedWhenFull("liars", 0, x -> x.liars(0));
        refusedWhenFull("by the 20th", 1, x -> x.likely(0, 1 << 19 | 1, 0) == -2 ? 1 : 0);
    }
}
