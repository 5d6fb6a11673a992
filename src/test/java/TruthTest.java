/** Promises 19 to 22: what fits, if nobody lied. */
public final class TruthTest {
    private static final int LOW = Integer.MIN_VALUE;
    private static final int HIGH = Integer.MAX_VALUE;
    private static final int[] NOT_SAID = {8, 15, 1 << 19, 1 << 20, 1 << 30, HIGH, LOW, -1};

    private TruthTest() {
    }

    public static void main(String[] args) {
        ifTrue();
        liars();
        liarsAtOnce();
        liarsOfAll();
        against();
        follows();
        followsRefused();
        manyAnswers();
        Checks.end("TruthTest");
    }

    private static void due(String call, long want, long got) {
        Checks.due(call, want, got);
    }

    /** WITNESSES 0 to 9 with twelve LAYERS, QUESTIONS a, b, a&b, 0, 1, a^b. */
    private static OnionCourt court(String transcript) {
        OnionCourt x = new OnionCourt();
        String[] texts = {"a", "b", "a&b", "0", "1", "a^b"};
        for (int k = 0; k < texts.length; k++) {
            Checks.question(x, k, texts[k]);
        }
        for (int w = 0; w < 10; w++) {
            x.witness(w, w);
            Checks.onion(x, w, "5x9,5x3");
        }
        if (!transcript.isEmpty()) {
            due(transcript, transcript.split(";").length, Checks.transcript(x, transcript));
        }
        return x;
    }

    private static void ifTrue() {
        OnionCourt x = court("0A+;1B-;2C+");
        due("none", 0xFFFFFFFFL, x.ifTrue(0));
        due("a", 0xAAAAAAAAL, x.ifTrue(1));
        due("not b", 0x33333333L, x.ifTrue(2));
        due("a&b", 0x88888888L, x.ifTrue(4));
        due("a, not b", 0x22222222L, x.ifTrue(3));
        due("a, a&b", 0x88888888L, x.ifTrue(5));
        due("not b, a&b", 0, x.ifTrue(6));
        due("all", 0, x.ifTrue(7));
        for (int bits : NOT_SAID) {
            due("ifTrue " + bits, -1, x.ifTrue(bits));
        }
        x.prior(0, 0);
        Checks.law(x, "l10(1=1)");
        due("PRIORS and THE LAW are not asked", 0xAAAAAAAAL, x.ifTrue(1));
    }

    private static void liarsAre(String transcript, int... who) {
        OnionCourt x = court(transcript);
        int bits = 0;
        for (int w : who) {
            bits |= 1 << w;
        }
        due(transcript + ": how many", who.length, x.liars(0));
        due(transcript + ": which", bits, x.liars(1));
    }

    private static void liars() {
        liarsAre("");
        liarsAre("0A+;1B+;2C+");
        liarsAre("0A+;1A-", 0);
        liarsAre("4A+;3A-", 3);
        liarsAre("0A+;1A-;2A-", 0);
        liarsAre("0A+;1A-;2A+", 1);
        liarsAre("9A+;1A-;2A-", 9);
        liarsAre("5A+;5A-", 5);
        liarsAre("0D+", 0);
        liarsAre("7E-;0A+", 7);
        liarsAre("0A+;1B+;2C-", 0);
        liarsAre("2A+;3B+;1C-;3C-", 2);
        liarsAre("4A+;3B+;5C-;3C-", 3);
        OnionCourt x = court("0A+;1A-");
        for (int what : new int[] {2, -1, 20, LOW, HIGH}) {
            due("liars " + what, -1, x.liars(what));
        }
        x.witness(0, 5);
        due("the ANSWERS stay", 1, x.liars(1));
    }

    private static void liarsAtOnce() {
        liarsAre("5A+;5A-;8D+", 5, 8);
        liarsAre("0A+;1A-;2B+;3B-", 0, 2);
        liarsAre("0A+;1A-;2B+;3B-;1B-", 0, 2);
        liarsAre("0A+;1A-;2B+;3B-;1B+;4B+", 0, 3);
        liarsAre("6A+;7B+;8F+", 6);
        liarsAre("3A+;2B-;1F-;1A+", 1);
    }

    private static void liarsOfAll() {
        liarsAre("0D+;1D+;2D+;3D+;4D+;5D+;6D+;7D+;8D+;9D+", 0, 1, 2, 3, 4, 5, 6, 7, 8, 9);
        liarsAre("0D+;1D+;2D+;3D+;4D+;5D+;6D+;7D+;8D+;9D-", 0, 1, 2, 3, 4, 5, 6, 7, 8);
        liarsAre("0D+;1D+;2D+;3D+;4D+;5D+;6D+;7D+;9D+;9E+", 0, 1, 2, 3, 4, 5, 6, 7, 9);
    }

    private static void standAgainst(int twos, String transcript) {
        due("against in " + transcript, twos, court(transcript).against());
    }

    private static void against() {
        standAgainst(0, "");
        standAgainst(0, "0A+");
        standAgainst(0, "0D+");
        standAgainst(1, "0A+;1A-");
        standAgainst(0, "0A+;1B-");
        standAgainst(1, "0A+;0A-");
        standAgainst(2, "0A+;1A-;2A+");
        standAgainst(4, "0A+;1A-;2A+;3A-");
        standAgainst(2, "0A+;1B-;2D+");
        standAgainst(3, "0D+;1D+;2D+");
        standAgainst(2, "0C+;1A-;2B-");
        standAgainst(0, "0A+;1B+;2F+");
        OnionCourt x = court("0A+;1A-");
        x.strike();
        due("struck out", 0, x.against());
    }

    private static void follows() {
        OnionCourt x = court("0A+;1B-;2C+");
        int all = 63;
        int[][] want = {{0, 16, 8}, {1, 1 | 16, 8}, {2, 16, 2 | 4 | 8}, {3, 1 | 16 | 32, 2 | 4 | 8}, {4, 1 | 2 | 4 | 16, 8 | 32},
            {5, 1 | 2 | 4 | 16, 8 | 32}, {6, all, all}, {7, all, all}};
        for (int[] one : want) {
            due("follows " + one[0] + " 0", one[1], x.follows(one[0], 0));
            due("follows " + one[0] + " 1", one[2], x.follows(one[0], 1));
        }
        Checks.question(x, 7, "!a");
        due("told ones alone", 8 | 128, x.follows(1, 1));
        due("told ones alone", all | 128, x.follows(7, 1));
    }

    private static void followsRefused() {
        OnionCourt x = court("0A+;1B-;2C+");
        for (int bits : NOT_SAID) {
            due("follows " + bits, -1, x.follows(bits, 0));
        }
        for (int what : new int[] {2, -1, LOW, HIGH}) {
            due("follows what " + what, -1, x.follows(0, what));
        }
        OnionCourt none = new OnionCourt();
        due("none told", 0, none.follows(0, 0));
        due("none told", 0, none.follows(0, 1));
        due("none said", -1, none.follows(1, 0));
    }

    /** Any ANSWERS, not six alone. */
    private static void manyAnswers() {
        OnionCourt x = court(TestCourt.times(10, "0A+;1B+", ";"));
        due("all twenty", 0x88888888L, x.ifTrue((1 << 20) - 1));
        due("the last", 0xCCCCCCCCL, x.ifTrue(1 << 19));
        due("no 21st", -1, x.ifTrue(1 << 20));
        due("follows", 1 | 2 | 4 | 16, x.follows((1 << 20) - 1, 0));
        due("no 21st", -1, x.follows(1 << 20, 0));
        x.strike();
        x.answers(2, 0, false, false);
        due("the last against ten", 10, x.against());
        due("of like ones the least", 1, x.liars(1));
    }
}
