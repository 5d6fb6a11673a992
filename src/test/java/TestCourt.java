/** A court for the tests by hand. */
final class TestCourt {
    private TestCourt() {
    }

    /** WITNESSES 0 and 1 (HONESTY 9 and 2, twelve LAYERS of 50 and of 9), QUESTIONS a, a&b, a|b, a^b, !a. */
    static OnionCourt made() {
        OnionCourt x = new OnionCourt();
        Checks.question(x, 0, "a");
        Checks.question(x, 1, "a&b");
        Checks.question(x, 2, "a|b");
        Checks.question(x, 3, "a^b");
        Checks.question(x, 4, "!a");
        x.witness(0, 9);
        x.witness(1, 2);
        Checks.onion(x, 0, "50x9,50x3");
        Checks.onion(x, 1, "9x9,9x3");
        return x;
    }

    static String times(int n, String text, String between) {
        StringBuilder all = new StringBuilder();
        for (int i = 0; i < n; i++) {
            all.append(i == 0 ? "" : between).append(text);
        }
        return all.toString();
    }
}
