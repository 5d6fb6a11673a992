import java.util.Random;

/** Long drawn runs of calls, each answer held against the Model's. The numbers are drawn the same way each time. */
public final class ModelTest {
    private final OnionCourt court = new OnionCourt();
    private final Model model = new Model();
    private final Random random;
    private final Texts texts;
    private final String run;
    private int calls = 0;

    private ModelTest(int number) {
        random = new Random(number);
        texts = new Texts(random);
        run = "run " + number + ": ";
    }

    public static void main(String[] args) {
        int runs = args.length > 0 ? Integer.parseInt(args[0]) : 700;
        for (int number = 0; number < runs && Checks.wrong() < 20; number++) {
            new ModelTest(number).go();
        }
        Checks.end("ModelTest");
    }

    private void go() {
        if (to(5) > 0) {
            begin();
        }
        for (int i = 0; i < 55; i++) {
            step();
        }
        look();
    }

    private void begin() {
        for (int w = 0; w < 2 + to(5); w++) {
            witness(w, to(10));
            onion(w, texts.onion());
        }
        for (int k = 0; k < 1 + to(8); k++) {
            question(k, texts.question());
        }
        law(texts.law());
        for (int i = 0; i < to(5); i++) {
            int tenths = to(11);
            due("prior", model.prior(i, tenths), court.prior(i, tenths));
        }
        for (int i = 0; i < to(9); i++) {
            answers(to(5), to(6), to(2) == 0, to(3) == 0);
        }
    }

    private int to(int n) {
        return random.nextInt(n);
    }

    /** Mostly from 0 to n - 1, now and then about its ends or far away. */
    private int near(int n) {
        int how = to(24);
        int[] far = {-1, n, n + 1, Integer.MIN_VALUE, Integer.MAX_VALUE, -7};
        return how == 0 ? far[to(far.length)] : to(n);
    }

    /** WITNESSES (bits) that have LAYERS. */
    private int told() {
        int told = 0;
        for (int w = 0; w < 10; w++) {
            told |= model.witnessIs(w, 1) > 0 ? 1 << w : 0;
        }
        return told;
    }

    private int bits() {
        int said = model.count(1);
        int how = to(20);
        int[] odd = {-1, 1 << said, 1 << 20, 1 << 31, 1 << 30};
        if (how == 0) {
            return odd[to(odd.length)];
        }
        int bits = said == 0 ? 0 : to(1 << said);
        while (how < 17 && Integer.bitCount(bits) > 6) {
            bits &= bits - 1;
        }
        return bits;
    }

    private void step() {
        int how = to(48);
        if (how < 2) {
            question(near(8), texts.question());
        } else if (how < 5) {
            law(texts.law());
        } else if (how < 10) {
            onion(to(3) == 0 ? near(10) : to(5), texts.onion());
        } else if (how < 17) {
            transcript(texts.transcript(told(), model.count(3)));
        } else if (how < 26) {
            act(how);
        } else if (how < 40) {
            ask(how);
        } else {
            reckon(how);
        }
    }

    private void law(String text) {
        feed(text);
        int n = bent(text.length());
        due("law " + text, model.law(n), court.law(n));
    }

    private void question(int k, String text) {
        feed(text);
        int n = bent(text.length());
        due("question " + k + " " + text, model.question(k, n), court.question(k, n));
    }

    private void onion(int w, String text) {
        feed(text);
        int n = bent(text.length());
        due("onion " + w + " " + text, model.onion(w, n), court.onion(w, n));
    }

    private void transcript(String text) {
        feed(text);
        int n = bent(text.length());
        due("transcript " + text, model.transcript(n), court.transcript(n));
    }

    private int bent(int n) {
        int[] odd = {0, -1, n + 1, 260, 61, 101, 241, Integer.MAX_VALUE, n - 1};
        return to(20) == 0 ? odd[to(odd.length)] : n;
    }

    private void feed(String text) {
        if (model.count(5) > 0 && to(20) > 0) {
            due("skins", model.skins(1, 1, 0), court.skins(1, 1, 0));
        }
        for (int at = 0; at < text.length() && (model.count(5) == 0 || to(60) > 0); at += 20) {
            int[] words = new int[5];
            for (int i = 0; i < 20; i++) {
                int sign = at + i < text.length() ? text.charAt(at + i) : 'a';
                words[i / 4] |= sign << 24 - i % 4 * 8;
            }
            due("feed", model.feed(words), court.feed(words[0], words[1], words[2], words[3], words[4]));
        }
    }

    private void witness(int w, int honesty) {
        due("witness", model.witness(w, honesty), court.witness(w, honesty));
    }

    private void act(int how) {
        int w = to(4) == 0 ? near(10) : to(4);
        int k = to(2) == 0 ? near(8) : to(3);
        int x = to(9) == 0 ? near(65536) : to(65536);
        int n = to(4) == 0 ? near(61) : 1 + to(3);
        boolean yes = to(2) == 0;
        boolean cried = to(2) == 0;
        switch (how) {
            case 17: due("prior", model.prior(w, k), court.prior(w, k)); break;
            case 18: witness(near(10), near(10)); break;
            case 19: due("strike", model.strike(), court.strike()); break;
            case 20: due("seed", model.seed(x), court.seed(x)); break;
            case 21: due("keep", model.keep(), court.keep()); break;
            case 22: due("undo", model.undo(), court.undo()); break;
            case 23: due("weeks " + n, model.weeks(n), court.weeks(n)); break;
            default: answers(w, k, yes, cried); break;
        }
    }

    private void answers(int w, int k, boolean yes, boolean cried) {
        due("answers", model.answers(w, k, yes, cried), court.answers(w, k, yes, cried));
    }

    private void ask(int how) {
        int bits = bits();
        int k = to(2) == 0 ? near(8) : to(3);
        int i = to(9) == 0 ? near(20) : near(Math.max(1, model.count(1)));
        int what = near(2);
        switch (how) {
            case 26: case 27: case 28: case 29:
                due("likely", model.likely(k, bits, what), court.likely(k, bits, what)); break;
            case 30: case 31: due("lie", model.lie(i, bits, what), court.lie(i, bits, what)); break;
            case 32: case 33: due("world", model.world(bits, what), court.world(bits, what)); break;
            case 34: due("askNext", model.askNext(bits), court.askNext(bits)); break;
            case 35: due("ifTrue", model.ifTrue(bits), court.ifTrue(bits)); break;
            case 36: due("liars", model.liars(what), court.liars(what)); break;
            case 37: due("against", model.against(), court.against()); break;
            default: due("follows", model.follows(bits, what), court.follows(bits, what)); break;
        }
    }

    private void reckon(int how) {
        int w = near(10);
        int v = to(3) == 0 ? near(10) : to(4);
        int n = to(4) == 0 ? near(61) : 1 + to(6);
        int what = near(2);
        int other = to(4);
        int ofWhat = to(3) == 0 ? near(2) : 10 + to(21);
        switch (how) {
            case 40: due("agree", model.agree(v, other, what), court.agree(v, other, what)); break;
            case 41: due("tears", model.tears(w), court.tears(w)); break;
            case 42: seen(1 + near(12), what); break;
            case 43: skins(); break;
            case 44: onionsFor(); break;
            case 45: due("peeled", model.peeled(v, n), court.peeled(v, n)); break;
            case 46: check(); break;
            default: due("tried " + n + " " + ofWhat, model.tried(n, ofWhat), court.tried(n, ofWhat)); break;
        }
    }

    private void seen(int n, int what) {
        int speed = to(2) == 0 ? to(4) : near(100);
        feed(texts.bytes(Math.floorMod(2 * n, 26), to(2) == 0 ? 12 : 256));
        due("seen", model.seen(n, speed, what), court.seen(n, speed, what));
    }

    private void skins() {
        int n = to(9) == 0 ? near(12) : 1 + to(7);
        int size = to(3) == 0 ? near(256) : 40 + to(60);
        int what = to(2) == 0 ? 20 : near(Math.floorMod(n, 20) + 1);
        feed(texts.bytes(Math.floorMod(n, 20), to(4) == 0 ? 120 : 40).replace('\0', (char) (to(20) == 0 ? 0 : 9)));
        due("skins", model.skins(n, size, what), court.skins(n, size, what));
    }

    private void onionsFor() {
        int witnesses = to(8) == 0 ? near(1024) : to(64) & model.count(2);
        int what = to(2) == 0 ? 20 : near(10);
        due("onionsFor", model.onionsFor(witnesses, what), court.onionsFor(witnesses, what));
    }

    private void check() {
        int w = to(9) == 0 ? near(10) : to(4);
        int layers = Math.max(0, model.witnessIs(w, 1));
        StringBuilder strengths = new StringBuilder();
        for (int i = 0; i < 12; i++) {
            strengths.append((char) (i < layers && to(9) > 0 ? model.witnessIs(w, 10 + i) : to(9) == 0 ? 1 : 0));
        }
        feed(strengths.toString());
        int n = near(13);
        due("check", model.check(w, n), court.check(w, n));
    }

    /** At everything, as far as the 512 calls of an object go. */
    private void look() {
        for (int what = 0; what < 28; what++) {
            due("count " + what, model.count(what), court.count(what));
        }
        for (int w = 0; w < 10 && calls < 300; w++) {
            int told = model.witnessIs(w, 0) < 0 ? 1 : 6 + Math.max(0, model.witnessIs(w, 1)) + 5;
            for (int what = 0; what < told; what++) {
                due("witnessIs " + what, model.witnessIs(w, what), court.witnessIs(w, what));
            }
        }
        for (int i = 0; i < model.count(1) + 1 && calls < 500; i++) {
            for (int what = 0; what < 7; what++) {
                due("answerIs " + i + " " + what, model.answerIs(i, what), court.answerIs(i, what));
            }
        }
    }

    private void due(String call, long want, long got) {
        calls++;
        Checks.due(run + call, want, got);
    }

    private void due(String call, boolean want, boolean got) {
        due(call, want ? 1L : 0L, got ? 1L : 0L);
    }
}
