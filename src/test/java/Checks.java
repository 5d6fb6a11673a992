/** What the tests share: counting wrong answers, and feeding texts. */
final class Checks {
    private static int asked = 0;
    private static int wrong = 0;

    private Checks() {
    }

    static void due(String call, long want, long got) {
        asked++;
        if (got != want) {
            wrong++;
            System.out.println(call + " answered " + got + ", due is " + want);
        }
    }

    static void due(String call, boolean want, boolean got) {
        due(call, want ? 1 : 0, got ? 1 : 0);
    }

    static int wrong() {
        return wrong;
    }

    /** Ends with exit code 1 if an answer was wrong, or if nothing was asked. */
    static void end(String name) {
        System.out.println(name + ": " + asked + " answers asked, " + wrong + " wrong");
        if (wrong != 0 || asked == 0) {
            System.exit(1);
        }
    }

    /** Feeds the text, filled up to whole feeds with bytes that no text may hold. */
    static void feed(OnionCourt x, String text) {
        for (int at = 0; at < text.length(); at += 20) {
            int[] words = new int[5];
            for (int i = 0; i < 20; i++) {
                int sign = at + i < text.length() ? text.charAt(at + i) : 200;
                words[i / 4] |= sign << 24 - i % 4 * 8;
            }
            x.feed(words[0], words[1], words[2], words[3], words[4]);
        }
    }

    static int law(OnionCourt x, String text) {
        feed(x, text);
        return x.law(text.length());
    }

    static int question(OnionCourt x, int k, String text) {
        feed(x, text);
        return x.question(k, text.length());
    }

    static int onion(OnionCourt x, int w, String text) {
        feed(x, text);
        return x.onion(w, text.length());
    }

    static int transcript(OnionCourt x, String text) {
        feed(x, text);
        return x.transcript(text.length());
    }

    static int seen(OnionCourt x, String hoursAndSpots, int speed, int what) {
        feed(x, hoursAndSpots);
        return x.seen(hoursAndSpots.length() / 2, speed, what);
    }

    static int skins(OnionCourt x, String sizes, int size, int what) {
        feed(x, sizes);
        return x.skins(sizes.length(), size, what);
    }

    static int check(OnionCourt x, int w, String strengths) {
        feed(x, strengths);
        return x.check(w, strengths.length());
    }

    static String bytes(int... values) {
        StringBuilder text = new StringBuilder();
        for (int value : values) {
            text.append((char) value);
        }
        return text.toString();
    }
}
