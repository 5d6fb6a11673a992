import java.lang.management.ManagementFactory;
import java.util.Random;

/** Any arguments in any state: nothing throws, every call ends, and no call makes an object. */
public final class WildTest {
    private static final int[] EDGES = {0, 1, -1, 2, 5, 8, 10, 12, 13, 20, 21, 31, 32, 60, 61, 99, 100, 101, 240, 255, 256, 260, 261,
        1 << 20, 1 << 30, 65535, 65536, Integer.MIN_VALUE, Integer.MAX_VALUE, Integer.MIN_VALUE + 1};
    private static final String SIGNS = "lcgyb0123456789whsjkfzt()[]!&|<>=+-*/%;,xABCDEFGHabcde^";

    private final Random random;
    private OnionCourt x;

    private WildTest(int number) {
        random = new Random(number);
        x = new OnionCourt();
    }

    public static void main(String[] args) {
        for (int number = 0; number < 400; number++) {
            WildTest test = new WildTest(number);
            for (int i = 0; i < 512; i++) {
                test.call();
            }
            Checks.due("still there", true, test.x.count(5) >= 0);
        }
        makesNothing();
        Checks.end("WildTest");
    }

    /** Less than a byte a call: the machine itself may take some now and then. */
    private static void makesNothing() {
        com.sun.management.ThreadMXBean threads = (com.sun.management.ThreadMXBean) ManagementFactory.getThreadMXBean();
        long thread = Thread.currentThread().getId();
        WildTest test = new WildTest(1);
        for (int i = 0; i < 20000; i++) {
            test.call();
        }
        long before = threads.getThreadAllocatedBytes(thread);
        for (int i = 0; i < 20000; i++) {
            test.call();
        }
        long made = threads.getThreadAllocatedBytes(thread) - before;
        Checks.due("bytes made by 20000 calls: " + made, true, made < 20000);
    }

    private int wild() {
        int how = random.nextInt(8);
        if (how == 0) {
            return EDGES[random.nextInt(EDGES.length)];
        }
        return how == 1 ? random.nextInt() : how == 2 ? random.nextInt(64) - 2 : random.nextInt(how < 5 ? 3 : 12);
    }

    private int word() {
        int word = 0;
        for (int i = 0; i < 4; i++) {
            int sign = random.nextInt(30) == 0 ? random.nextInt(256) : SIGNS.charAt(random.nextInt(SIGNS.length()));
            word = word << 8 | sign;
        }
        return word;
    }

    private void call() {
        switch (random.nextInt(38)) {
            case 0: x.prior(wild(), wild()); break;
            case 1: case 2: x.witness(wild(), wild()); break;
            case 3: case 4: case 5: x.feed(word(), word(), word(), word(), word()); break;
            case 6: x.law(wild()); break;
            case 7: x.question(wild(), wild()); break;
            case 8: x.onion(wild(), wild()); break;
            case 9: x.transcript(wild()); break;
            case 10: case 11: x.answers(wild(), wild(), random.nextBoolean(), random.nextBoolean()); break;
            case 12: x.strike(); break;
            case 13: x.weeks(wild()); break;
            case 14: x.tried(wild(), wild()); break;
            case 15: x.witnessIs(wild(), wild()); break;
            case 16: x.answerIs(wild(), wild()); break;
            case 17: x.likely(wild(), wild(), wild()); break;
            case 18: x.lie(wild(), wild(), wild()); break;
            case 19: x.world(wild(), wild()); break;
            case 20: x.askNext(wild()); break;
            case 21: x.ifTrue(wild()); break;
            case 22: x.liars(wild()); break;
            case 23: x.against(); break;
            case 24: x.follows(wild(), wild()); break;
            case 25: x.agree(wild(), wild(), wild()); break;
            case 26: x.tears(wild()); break;
            case 27: x.seen(wild(), wild(), wild()); break;
            case 28: x.skins(wild(), wild(), wild()); break;
            case 29: x.onionsFor(wild(), wild()); break;
            case 30: x.peeled(wild(), wild()); break;
            case 31: x.seed(wild()); break;
            case 32: x.keep(); break;
            case 33: x.undo(); break;
            case 34: x.check(wild(), wild()); break;
            case 35: x.count(wild()); break;
            default: prepared(); break;
        }
    }

    /** Short texts that can be right, so that the other calls find something. */
    private void prepared() {
        switch (random.nextInt(4)) {
            case 0:
                x.skins(1, 1, 0);
                x.feed(0x61000000, 0, 0, 0, 0);
                x.question(random.nextInt(8), 1);
                break;
            case 1:
                x.skins(1, 1, 0);
                x.feed(0x35307839, 0, 0, 0, 0);
                x.onion(random.nextInt(10), 4);
                break;
            case 2:
                x.skins(1, 1, 0);
                x.feed(0x6C352873, 0x2F683E30, 0x293B6239, 0x28313D31, 0x29000000);
                x.law(17);
                break;
            default:
                x.witness(random.nextInt(10), random.nextInt(10));
                break;
        }
    }
}
