/** Promises 25 to 28: alibis, skins in boxes, ONIONS for WITNESSES, what will be peeled. */
public final class PuzzleTest {
    private static final int LOW = Integer.MIN_VALUE;
    private static final int HIGH = Integer.MAX_VALUE;

    private PuzzleTest() {
    }

    public static void main(String[] args) {
        seen();
        seenMost();
        seenTape();
        seenRefused();
        skins();
        skinsRow();
        skinsBehindOthers();
        skinsRefused();
        skinsTape();
        onionsFor();
        onionsForNothing();
        onionsForFive();
        onionsForRefused();
        peeled();
        Checks.end("PuzzleTest");
    }

    private static void due(String call, long want, long got) {
        Checks.due(call, want, got);
    }

    private static void together(int want, int speed, int... hoursAndSpots) {
        OnionCourt x = new OnionCourt();
        String text = Checks.bytes(hoursAndSpots);
        due("seen, which", want, Checks.seen(x, text, speed, 1));
        due("seen, how many", Integer.bitCount(want), Checks.seen(x, text, speed, 0));
    }

    private static void seen() {
        together(1, 0, 3, 3);
        together(3, 5, 10, 0, 11, 5);
        together(1, 5, 10, 0, 11, 6);
        together(3, 5, 11, 5, 10, 0);
        together(3, 5, 10, 5, 11, 0);
        together(3, 5, 10, 0, 12, 10);
        together(3, 0, 10, 7, 200, 7);
        together(1, 0, 10, 7, 200, 8);
        together(3, 99, 10, 7, 10, 7);
        together(1, 99, 10, 7, 10, 8);
        together(3, 5, 10, 0, 11, 5, 12, 30);
        together(7, 25, 10, 0, 11, 5, 12, 30);
        together(3, 1, 0, 0, 255, 255);
        together(1, 1, 1, 0, 255, 255);
        together(3, 99, 0, 0, 3, 255);
    }

    private static void seenMost() {
        together(6, 1, 5, 50, 5, 9, 6, 10);
        together(1 | 4 | 8, 1, 1, 0, 2, 9, 3, 1, 4, 2);
        together(3, 2, 1, 0, 2, 2, 1, 50, 2, 52);
        together(4 | 8 | 16, 2, 1, 0, 2, 2, 1, 50, 2, 52, 3, 54);
        together(5, 0, 1, 1, 1, 2, 1, 1, 1, 2);
        together(0xFFF, 1, 0, 0, 1, 1, 2, 2, 3, 3, 4, 4, 5, 5, 6, 6, 7, 7, 8, 8, 9, 9, 10, 10, 11, 11);
        together(0x555, 0, 0, 0, 1, 1, 2, 0, 3, 1, 4, 0, 5, 1, 6, 0, 7, 1, 8, 0, 9, 1, 10, 0, 11, 1);
        together(0xAAA, 0, 0, 9, 1, 1, 2, 0, 3, 1, 4, 0, 5, 1, 6, 0, 7, 1, 8, 0, 9, 1, 10, 0, 11, 1);
        together(0x800 | 1, 1, 0, 0, 1, 20, 1, 30, 1, 40, 1, 50, 1, 60, 1, 70, 1, 80, 1, 90, 1, 100, 1, 110, 1, 1);
    }

    private static void seenTape() {
        OnionCourt x = new OnionCourt();
        x.feed(0x0A000B05, 0, 0, 0, 0);
        due("two of ten", 2, x.seen(2, 5, 0));
        due("empty then", 0, x.count(5));
        due("not so many", -1, x.seen(1, 5, 0));
        x.feed(0, 0, 0, 0, 0);
        due("ten", 10, x.seen(10, 5, 0));
        x.feed(0, 0, 0, 0, 0);
        due("it has not eleven", -1, x.seen(11, 5, 0));
        due("the tape stays", 20, x.count(5));
        x.feed(0, 0, 0, 0, 0);
        due("eleven", 0x7FF, x.seen(11, 5, 1));
    }

    private static void seenRefused() {
        OnionCourt x = new OnionCourt();
        x.feed(0, 0, 0, 0, 0);
        x.feed(0, 0, 0, 0, 0);
        int[][] none = {{0, 5, 0}, {13, 5, 0}, {-1, 5, 0}, {1, -1, 0}, {1, 100, 0}, {1, 5, 2}, {1, 5, -1}, {LOW, 5, 0}, {HIGH, 5, 0},
            {1, LOW, 0}, {1, HIGH, 1}, {1, 5, LOW}, {1 << 30, 5, 0}, {LOW + 1, 5, 0}};
        for (int[] one : none) {
            due("seen " + one[0] + " " + one[1] + " " + one[2], -1, x.seen(one[0], one[1], one[2]));
        }
        due("the tape stays", 40, x.count(5));
        due("speed 99", 1, x.seen(1, 99, 1));
        x.feed(0, 0, 0, 0, 0);
        due("speed 0", 1, x.seen(1, 0, 1));
    }

    /** The row of boxes of these sizes. */
    private static void row(int size, int[] sizes, int... want) {
        OnionCourt x = new OnionCourt();
        String text = Checks.bytes(sizes);
        int boxes = 0;
        for (int i = 0; i < want.length; i++) {
            due("skin " + i + " of " + sizes.length, want[i], Checks.skins(x, text, size, i));
            boxes = Math.max(boxes, want[i] + 1);
        }
        due("boxes", boxes, Checks.skins(x, text, size, 20));
    }

    private static int[] sizes(int... sizes) {
        return sizes;
    }

    private static void skins() {
        row(10, sizes(5, 5, 4, 6), 0, 0, 1, 1);
        row(10, sizes(10), 0);
        row(99, sizes(99, 99), 0, 1);
        row(255, sizes(99, 99, 57, 1), 0, 0, 0, 1);
        row(254, sizes(99, 99, 57), 0, 0, 1);
        row(1, sizes(1, 1, 1, 1, 1, 1, 1, 1, 1, 1), 0, 1, 2, 3, 4, 5, 6, 7, 8, 9);
        row(10, sizes(1, 1, 1, 1, 1, 1, 1, 1, 1, 1), 0, 0, 0, 0, 0, 0, 0, 0, 0, 0);
        row(9, sizes(1, 1, 1, 1, 1, 1, 1, 1, 1, 1), 0, 0, 0, 0, 0, 0, 0, 0, 0, 1);
        row(100, sizes(51, 51, 51, 51, 51, 51, 51, 51, 51, 51), 0, 1, 2, 3, 4, 5, 6, 7, 8, 9);
    }

    private static void skinsRow() {
        row(10, sizes(3, 4, 6, 7), 0, 1, 1, 0);
        row(10, sizes(2, 3, 4, 5, 6), 0, 0, 1, 0, 1);
        row(10, sizes(6, 5, 5, 4), 0, 1, 1, 0);
        row(10, sizes(1, 9, 1, 9, 5), 0, 0, 1, 1, 2);
        row(10, sizes(4, 4, 4, 6, 6, 6), 0, 1, 2, 0, 1, 2);
        row(10, sizes(4, 4, 4, 5, 6), 0, 0, 1, 1, 2);
        row(12, sizes(4, 4, 4, 6, 6, 6), 0, 0, 0, 1, 1, 2);
        row(20, sizes(7, 6, 5, 9, 8, 5), 0, 1, 0, 1, 0, 1);
        row(20, sizes(7, 6, 6, 8, 7, 6), 0, 0, 1, 1, 0, 1);
    }

    /** What lay on the tape before does not count. */
    private static void skinsBehindOthers() {
        OnionCourt x = new OnionCourt();
        due("ten boxes", 10, Checks.skins(x, Checks.bytes(99, 99, 99, 99, 99, 99, 99, 99, 99, 99), 99, 20));
        due("one box", 1, Checks.skins(x, Checks.bytes(50, 49), 99, 20));
        due("one box", 0, Checks.skins(x, Checks.bytes(50, 49), 99, 1));
        due("two boxes", 2, Checks.skins(x, Checks.bytes(50, 50), 99, 20));
        due("one skin", 1, Checks.skins(x, Checks.bytes(99), 99, 20));
        due("nine in one", 1, Checks.skins(x, Checks.bytes(1, 2, 3, 4, 5, 6, 7, 8, 9), 45, 20));
        due("nine in two", 2, Checks.skins(x, Checks.bytes(1, 2, 3, 4, 5, 6, 7, 8, 9), 44, 20));
        due("the first alone in the other", 1, Checks.skins(x, Checks.bytes(1, 2, 3, 4, 5, 6, 7, 8, 9), 44, 8));
    }

    private static void skinsRefused() {
        OnionCourt x = new OnionCourt();
        x.feed(0x05050404, 0, 0, 0, 0);
        int[][] none = {{0, 9, 20}, {11, 9, 20}, {-1, 9, 20}, {21, 9, 20}, {4, 0, 20}, {4, 256, 20}, {4, -1, 20}, {LOW, 9, 0}, {HIGH, 9, 0},
            {4, LOW, 0}, {4, HIGH, 0}, {5, 0, 21}, {0, 9, 99}};
        for (int[] one : none) {
            due("skins " + one[0] + " " + one[1] + " " + one[2], -1, x.skins(one[0], one[1], one[2]));
        }
        due("the tape stays", 20, x.count(5));
        due("255", 1, x.skins(4, 255, 20));
        due("empty then", 0, x.count(5));
        due("not so many", -1, x.skins(1, 9, 20));
    }

    private static void skinsTape() {
        OnionCourt x = new OnionCourt();
        int[][] wrong = {{5, 11, -2}, {0, 10, -2}, {100, 255, -2}, {255, 255, -2}, {99, 98, -2}, {99, 99, 2}, {10, 10, 2}};
        for (int[] one : wrong) {
            int boxes = Checks.skins(x, Checks.bytes(one[0], Math.min(99, one[1])), one[0] == 5 ? 4 : one[1], 20);
            due("skins " + one[0] + " in " + one[1], one[2], boxes);
            due("empty then", 0, x.count(5));
        }
        for (int what : new int[] {2, 3, 19, 21, 10, -1, LOW, HIGH}) {
            due("no such place", -4, Checks.skins(x, Checks.bytes(5, 5), 10, what));
            due("empty then", 0, x.count(5));
            due("-2 ahead of -4", -2, Checks.skins(x, Checks.bytes(5, 0), 10, what));
            due("NONE ahead of both", -1, Checks.skins(x, Checks.bytes(5, 0), 256, what));
            x.skins(1, 1, 0);
        }
    }

    private static OnionCourt court(String... onions) {
        OnionCourt x = new OnionCourt();
        for (int w = 0; w < onions.length; w++) {
            x.witness(w, w);
            if (!onions[w].isEmpty()) {
                Checks.onion(x, w, onions[w]);
            }
        }
        return x;
    }

    private static void changed(OnionCourt x, int much, int... whose) {
        int bits = 0;
        for (int i = 0; i < whose.length; i += 2) {
            bits |= 1 << whose[i];
        }
        due("onionsFor " + bits, much, x.onionsFor(bits, 20));
        for (int i = 0; i < whose.length; i += 2) {
            due("onionsFor " + bits + " " + whose[i], whose[i + 1], x.onionsFor(bits, whose[i]));
        }
    }

    private static void onionsFor() {
        OnionCourt x = court("9,1", "8", "7x2", "", "99");
        changed(x, 10, 0, 1, 1, 0);
        changed(x, 2 * 14 + 8, 1, 1, 2, 2);
        changed(x, 2 * 14 + 10, 0, 1, 1, 0, 2, 2);
        changed(x, 3 * 14, 2, 3, 3, 2);
        changed(x, 4 * 99 + 3 * 14 + 2 * 10 + 8, 0, 3, 1, 1, 2, 0, 3, 2, 4, 4);
        due("what they have stays", 14, x.witnessIs(2, 2));
        OnionCourt y = court("5", "5", "5");
        changed(y, 15, 0, 0, 1, 1, 2, 2);
        y.witness(0, 0);
        y.witness(1, 0);
        y.witness(2, 0);
        Checks.onion(y, 0, "1");
        Checks.onion(y, 1, "2");
        Checks.onion(y, 2, "3");
        changed(y, 0, 0, 0, 1, 1, 2, 2);
        y.witness(1, 1);
        changed(y, 3, 0, 0, 1, 2, 2, 1);
    }

    /** All rows are worth 0: the least, whatever was asked ahead. */
    private static void onionsForNothing() {
        OnionCourt x = court("9,1", "8", "7x2");
        x.witness(0, 5);
        Checks.onion(x, 1, "99");
        changed(x, 5 * 99 + 2 * 14, 0, 1, 1, 0, 2, 2);
        x.witness(0, 0);
        x.witness(1, 0);
        x.witness(2, 0);
        changed(x, 0, 0, 0, 1, 1, 2, 2);
        changed(x, 0, 0, 0, 2, 2);
        x.witness(0, 9);
        changed(x, 0, 0, 0, 1, 1);
        Checks.onion(x, 1, "1");
        changed(x, 9, 0, 1, 1, 0);
        changed(x, 0, 0, 0, 2, 2);
    }

    private static void onionsForFive() {
        OnionCourt x = new OnionCourt();
        int[] honesties = {3, 1, 4, 1, 5};
        String[] onions = {"10", "20", "30", "30", "40"};
        for (int i = 0; i < 5; i++) {
            x.witness(2 * i + 1, honesties[i]);
            Checks.onion(x, 2 * i + 1, onions[i]);
        }
        changed(x, 200 + 120 + 90 + 20 + 10, 1, 5, 3, 1, 5, 7, 7, 3, 9, 9);
        due("of all five, one's own", 9, x.onionsFor(0x2AA, 9));
        for (int i = 0; i < 5; i++) {
            x.witness(2 * i + 1, 9);
            Checks.onion(x, 2 * i + 1, "99x9,99x3");
        }
        changed(x, 5 * 9 * 1188, 1, 1, 3, 3, 5, 5, 7, 7, 9, 9);
    }

    private static void onionsForRefused() {
        OnionCourt x = court("1", "2", "3", "4", "5", "6");
        int[][] none = {{0, 20}, {1, 20}, {32, 5}, {63, 20}, {64 | 1, 20}, {-1, 20}, {LOW, 20}, {HIGH, 20}, {LOW | 3, 20}, {3, 2}, {3, -1},
            {3, 10}, {3, 19}, {3, 21}, {3, 32}, {3, LOW}, {3, HIGH}, {1 << 10 | 1, 20}, {128 | 1, 7}};
        for (int[] one : none) {
            due("onionsFor " + one[0] + " " + one[1], -1, x.onionsFor(one[0], one[1]));
        }
        changed(x, 2 + 2 * 3, 0, 0, 1, 1, 2, 2);
    }

    private static void peeled() {
        OnionCourt x = new OnionCourt();
        x.witness(3, 3);
        due("no LAYERS", -2, x.peeled(3, 1));
        Checks.onion(x, 3, "1,2,3,4,5,6,7,8,9,10,11,12");
        for (int n = 1; n <= 12; n++) {
            due("peeled " + n, n * (n + 1) / 2, x.peeled(3, n));
        }
        due("nothing is peeled", 12, x.witnessIs(3, 1));
        Checks.onion(x, 3, "9,8");
        due("both", 17, x.peeled(3, 2));
        due("not so many", -2, x.peeled(3, 3));
        due("not so many", -2, x.peeled(3, 12));
        int[][] none = {{3, 0}, {3, 13}, {3, -1}, {2, 1}, {-1, 1}, {10, 1}, {3, LOW}, {3, HIGH}, {LOW, 1}, {HIGH, 1}, {2, 12}};
        for (int[] one : none) {
            due("peeled " + one[0] + " " + one[1], -1, x.peeled(one[0], one[1]));
        }
    }
}
