/** Promises 11 and 12: WEEKS that go by and WEEKS that are tried. */
public final class WeekTest {
    private static final int LOW = Integer.MIN_VALUE;
    private static final int HIGH = Integer.MAX_VALUE;

    private WeekTest() {
    }

    public static void main(String[] args) {
        growAndDry();
        bothAskedAhead();
        gone();
        sprout();
        draws();
        whoDraws();
        fullOnions();
        letters();
        lastWeek();
        weeksRefused();
        tried();
        triedChangesNothing();
        triedRefused();
        Checks.end("WeekTest");
    }

    private static void due(String call, long want, long got) {
        Checks.due(call, want, got);
    }

    private static OnionCourt court(String onion, String law) {
        OnionCourt x = new OnionCourt();
        x.witness(4, 6);
        Checks.onion(x, 4, onion);
        due("law " + law, law.split(";").length, Checks.law(x, law));
        return x;
    }

    private static void layers(OnionCourt x, int... want) {
        due("LAYERS", want.length, x.witnessIs(4, 1));
        for (int i = 0; i < want.length; i++) {
            due("LAYER " + i, want[i], x.witnessIs(4, 10 + i));
        }
    }

    private static void growAndDry() {
        OnionCourt x = court("10,20,97", "g5(1=1);y2(1=1)");
        due("no sprout", 0, x.weeks(1));
        layers(x, 13, 23, 99);
        due("THE WEEK", 1, x.count(0));
        due("ten", 0, x.weeks(10));
        layers(x, 43, 53, 99);
        due("THE WEEK", 11, x.count(0));
        OnionCourt y = new OnionCourt();
        y.witness(4, 6);
        Checks.onion(y, 4, "10,20");
        y.weeks(60);
        layers(y, 10, 20);
        due("THE WEEK without a LAW", 60, y.count(0));
    }

    private static void bothAskedAhead() {
        OnionCourt x = court("10,30", "g20(s<20);y7(s>20);y1(s=10)");
        x.weeks(1);
        layers(x, 29, 23);
        OnionCourt y = court("95", "g20(1=1);y20(1=1)");
        y.weeks(1);
        layers(y, 95);
    }

    private static void gone() {
        OnionCourt x = court("3,9,2,5", "y3(1=1)");
        x.weeks(1);
        layers(x, 6, 2);
        OnionCourt y = court("3,9,2,5", "yj(1=1)");
        y.weeks(1);
        layers(y, 5, 1);
        OnionCourt z = court("1,1,1", "y1(1=1);b10(1=1)");
        due("no LAYERS left", 0, z.weeks(1));
        layers(z);
        due("no DRAW", 1, z.count(6));
        due("nothing sprouts any more", 0, z.weeks(60));
    }

    private static void sprout() {
        OnionCourt x = court("3,9", "b10(1=1)");
        due("one", 1, x.weeks(1));
        layers(x, 50, 3, 9);
        due("two more", 2, x.weeks(2));
        layers(x, 50, 50, 50, 3, 9);
        OnionCourt y = court("3,9", "y3(1=1);b10(j=1&s=6)");
        due("j and s as they are then", 1, y.weeks(1));
        layers(y, 50, 6);
    }

    /** X modulo 10 against each bound. */
    private static void draws() {
        long drawn = 1;
        OnionCourt x = court("3", "b0(1=1)");
        for (int i = 0; i < 25; i++) {
            drawn = (25173 * drawn + 13849) % 65536;
            int tenths = (int) (drawn % 10);
            Checks.law(x, "b" + tenths + "(1=1)");
            due("not below " + tenths, 0, x.tried(1, 0));
            Checks.law(x, "b" + (tenths + 1) + "(1=1)");
            due("below " + (tenths + 1), 1, x.tried(1, 0));
            Checks.law(x, "b0(1=1)");
            x.weeks(1);
            due("X", drawn, x.count(6));
        }
        x.seed(12345);
        x.weeks(1);
        due("X from 12345", (25173L * 12345 + 13849) % 65536, x.count(6));
    }

    private static void whoDraws() {
        OnionCourt x = new OnionCourt();
        x.witness(7, 1);
        x.witness(2, 1);
        x.witness(0, 1);
        x.weeks(1);
        due("no LAYERS, no DRAW", 1, x.count(6));
        Checks.onion(x, 7, "5");
        Checks.onion(x, 2, "5x9,5x3");
        x.weeks(1);
        long drawn = (25173L * 39022 + 13849) % 65536;
        due("two DRAWS, without a LAW, of twelve LAYERS, too", drawn, x.count(6));
        Checks.onion(x, 2, "5x9");
        x.seed(1);
        Checks.law(x, "b3(1=1)");
        due("by numbers: DRAWS 2 and then another", 1 + (drawn % 10 < 3 ? 1 : 0), x.weeks(1));
        due("2 sprouts", 10, x.witnessIs(2, 1));
    }

    private static void fullOnions() {
        OnionCourt x = court("5x9,6x2", "b10(1=1)");
        due("the twelfth", 1, x.weeks(1));
        due("twelve", 12, x.witnessIs(4, 1));
        due("the last stays", 6, x.witnessIs(4, 21));
        due("no thirteenth", 0, x.weeks(5));
        due("twelve", 12, x.witnessIs(4, 1));
    }

    private static void letters() {
        OnionCourt x = court("3", "gw(t=0);gh(t=1);gt(t=2);gj+k+f+z(1=1);b10(w=4&h=6&t=2&j=1&s=15&k=0)");
        due("WEEK 0", 0, x.weeks(1));
        layers(x, 7);
        x.weeks(1);
        layers(x, 13);
        due("WEEK 2", 1, x.weeks(1));
        layers(x, 50, 15);
        x.weeks(1);
        layers(x, 52, 17);
        Checks.question(x, 3, "a");
        x.answers(4, 3, true, true);
        x.answers(4, 3, false, false);
        Checks.law(x, "l5(1=1);c5(1=1);gk+z+f(1=1)");
        due("weighed ahead", 2, x.likely(3, 3, 1));
        Checks.onion(x, 4, "50");
        x.weeks(1);
        layers(x, 50);
        due("a YES weighed ahead", 2, x.likely(3, 1, 1));
        x.weeks(1);
        layers(x, 50);
    }

    private static void lastWeek() {
        OnionCourt x = court("3", "b10(1=1);g1(j=12)");
        for (int i = 0; i < 16; i++) {
            x.weeks(60);
        }
        due("THE WEEK", 960, x.count(0));
        x.witness(4, 0);
        Checks.onion(x, 4, "1");
        Checks.law(x, "g1(1=1)");
        due("tried as many as can", 40, x.tried(60, 24));
        due("as many as can", 0, x.weeks(60));
        due("999 at most", 999, x.count(0));
        layers(x, 40);
        int drawn = x.count(6);
        due("none goes by", 0, x.weeks(1));
        due("999", 999, x.count(0));
        due("X stays", drawn, x.count(6));
        layers(x, 40);
        due("none is tried", 40, x.tried(5, 24));
    }

    private static void weeksRefused() {
        OnionCourt x = court("3", "b10(1=1)");
        for (int n : new int[] {0, -1, 61, LOW, HIGH}) {
            due("weeks " + n, -1, x.weeks(n));
        }
        due("THE WEEK", 0, x.count(0));
        due("60", 11, x.weeks(60));
    }

    private static void tried() {
        OnionCourt x = court("30x2", "b10(1=1);y20(1=1)");
        x.witness(0, 3);
        Checks.onion(x, 0, "15,25,35");
        int[][] want = {{1, 0, 2}, {1, 1, 1}, {1, 14, 3}, {1, 24, 70}, {1, 10, 3}, {1, 20, 70},
            {2, 0, 4}, {2, 1, 5}, {2, 14, 2}, {2, 24, 80}, {2, 10, 2}, {2, 20, 80}, {3, 1, 5}, {3, 14, 3}, {60, 0, 120}};
        for (int[] one : want) {
            due("tried " + one[0] + " " + one[1], one[2], x.tried(one[0], one[1]));
        }
        due("30 is no such one", -1, x.tried(1, 30));
        due("40 is no such one", -1, x.tried(1, 40));
        due("-10 is no such one", -1, x.tried(1, -10));
        x.witness(9, 0);
        due("no LAYERS", 0, x.tried(1, 19));
        due("none together", 0, x.tried(1, 29));
    }

    private static void triedChangesNothing() {
        OnionCourt x = court("30x2", "b10(1=1);y20(1=1)");
        x.keep();
        x.tried(9, 0);
        due("THE WEEK", 0, x.count(0));
        due("X", 1, x.count(6));
        layers(x, 30, 30);
        int sprouts = x.tried(7, 0);
        int strengths = x.tried(7, 24);
        due("the DRAWS that will come", sprouts, x.weeks(7));
        due("STRENGTHS as tried", strengths, x.witnessIs(4, 2));
        due("what was KEPT is not tried away", 1, x.undo() ? 1 : 0);
        layers(x, 30, 30);
    }

    private static void triedRefused() {
        OnionCourt x = court("30x2", "b10(1=1)");
        int[][] none = {{0, 0}, {61, 0}, {-1, 0}, {LOW, 1}, {HIGH, 1}, {1, 2}, {1, -1}, {1, 9}, {1, 10}, {1, 13}, {1, 15}, {1, 20},
            {1, 25}, {1, 30}, {1, 34}, {1, 4}, {1, HIGH}, {1, LOW}, {0, 14}, {61, 24}};
        for (int[] one : none) {
            due("tried " + one[0] + " " + one[1], -1, x.tried(one[0], one[1]));
        }
        x.witness(9, 0);
        x.witness(0, 0);
        Checks.onion(x, 9, "40,30");
        Checks.onion(x, 0, "20");
        due("9 is no such one", -1, x.tried(1, 9));
        due("30 is no such one", -1, x.tried(1, 30));
        int[][] last = {{10, 2}, {19, 3}, {20, 70}, {29, 120}};
        for (int[] one : last) {
            due("tried 1 " + one[0], one[1], x.tried(1, one[0]));
        }
    }
}
