import java.util.Random;

/** Texts drawn by the document's grammars, most of them right, some bent. */
final class Texts {
    private final Random random;

    Texts(Random random) {
        this.random = random;
    }

    private int to(int n) {
        return random.nextInt(n);
    }

    private String any(String... texts) {
        return texts[to(texts.length)];
    }

    String law() {
        StringBuilder text = new StringBuilder();
        int rules = to(12) == 0 ? 14 + to(4) : 2 + to(6);
        for (int r = 0; r < rules; r++) {
            String rule = any("l", "c", "l", "c", "g", "y", "b") + sum(to(3))
                + "(" + (to(3) > 0 ? any("1=1", "w<9", "t=t") : condition(to(4))) + ")";
            if (rules >= 14) {
                rule = any("l", "c", "g", "y", "b") + any("1", "w", "f") + "(" + any("1=1", "z=1", "w=0") + ")";
            }
            if (text.length() + rule.length() > 238) {
                break;
            }
            text.append(r == 0 ? "" : ";").append(rule);
        }
        return cut(bent(text.toString(), "lcgyb0123456789whsjkfzt()[]!&|<>=+-*/%;aE \u00ff"), 240);
    }

    private String condition(int deep) {
        String text = test(deep);
        while (to(3) == 0) {
            text += any("&", "|", "&") + test(deep);
        }
        return text;
    }

    private String test(int deep) {
        if (to(40) == 0) {
            return nested(1 + to(7), "!(", "w=h", ")");
        }
        if (deep > 0 && to(3) == 0) {
            return "!" + test(deep - 1);
        }
        if (deep > 0 && to(3) == 0) {
            return "(" + condition(deep - 1) + ")";
        }
        return sum(deep) + any("<", ">", "=") + sum(deep);
    }

    private String sum(int deep) {
        String text = product(deep);
        while (to(3) == 0) {
            text += any("+", "-") + product(deep);
        }
        return text;
    }

    private String product(int deep) {
        String text = factor(deep);
        while (to(4) == 0) {
            text += any("*", "/", "%") + factor(deep);
        }
        return text;
    }

    private String factor(int deep) {
        if (to(60) == 0) {
            return nested(1 + to(7), "[", "j", "]");
        }
        if (deep > 0 && to(4) == 0) {
            return "[" + sum(deep - 1) + "]";
        }
        return to(2) == 0 ? any("w", "h", "s", "j", "k", "f", "z", "t", "f", "z")
            : any("0", "1", "2", "3", "5", "7", "10", "50", "20", "99999", "00012");
    }

    String question() {
        return cut(bent(formula(to(5)), "abcde01()!&|^f2 \u00ff"), 60);
    }

    private String formula(int deep) {
        String text = piece(deep);
        while (to(3) > 0 && text.length() < 40) {
            text += any("|", "^", "&") + piece(deep);
        }
        return text;
    }

    private String piece(int deep) {
        if (to(30) == 0) {
            return nested(1 + to(7), "!(", any("a", "b", "0"), ")");
        }
        if (deep > 0 && to(2) == 0) {
            return to(2) == 0 ? "!" + piece(deep - 1) : "(" + formula(deep - 1) + ")";
        }
        return to(12) == 0 ? any("0", "1") : any("a", "b", "c", "d", "e");
    }

    String onion() {
        StringBuilder text = new StringBuilder();
        int items = 1 + to(5);
        for (int i = 0; i < items; i++) {
            text.append(i == 0 ? "" : ",").append(to(30) == 0 ? to(2) : 1 + to(99));
            if (to(2) == 0) {
                text.append('x').append(2 + to(to(8) + 1));
            }
        }
        return cut(bent(text.toString(), "0123456789x,; \u00ff"), 60);
    }

    String transcript(int witnesses, int questions) {
        StringBuilder text = new StringBuilder();
        int lines = to(8) == 0 ? 8 + to(14) : 1 + to(4);
        for (int i = 0; i < lines; i++) {
            text.append(i == 0 ? "" : ";").append(one(witnesses, 10)).append((char) ('A' + one(questions, 8)));
            text.append(any("+", "-")).append(any("*", ""));
        }
        return cut(bent(text.toString(), "0123456789ABCDEFGHI+-*;a \u00ff"), 100);
    }

    /** One of these bits, now and then of all. */
    private int one(int bits, int n) {
        int found = to(n);
        for (int i = 0; i < 30 && to(600) > 0 && (bits >> found & 1) == 0; i++) {
            found = to(n);
        }
        return found;
    }

    String bytes(int n, int most) {
        StringBuilder text = new StringBuilder();
        for (int i = 0; i < n; i++) {
            text.append((char) to(most));
        }
        return text.toString();
    }

    /** The last of the opening signs is the one that must be closed. */
    private String nested(int deep, String opening, String inmost, String closing) {
        StringBuilder text = new StringBuilder();
        StringBuilder behind = new StringBuilder();
        for (int i = 0; i < deep; i++) {
            int which = to(opening.length());
            text.append(opening.charAt(which));
            behind.append(which == opening.length() - 1 ? closing : "");
        }
        return text.append(inmost).append(behind).toString();
    }

    private String bent(String text, String signs) {
        StringBuilder bent = new StringBuilder(text);
        int times = to(4) == 0 ? 1 + to(2) : 0;
        for (int i = 0; i < times; i++) {
            int at = to(bent.length() + 1);
            char sign = signs.charAt(to(signs.length()));
            int how = to(3);
            if (how == 0 || at == bent.length()) {
                bent.insert(at, sign);
            } else if (how == 1) {
                bent.setCharAt(at, sign);
            } else if (bent.length() > 1) {
                bent.deleteCharAt(at);
            }
        }
        return bent.toString();
    }

    private String cut(String text, int most) {
        return text.length() > most ? text.substring(0, most) : text;
    }
}
