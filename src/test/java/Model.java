import java.math.BigInteger;
import java.util.ArrayList;
import java.util.Arrays;
import java.util.Collections;
import java.util.List;
import java.util.Map;
import java.util.TreeMap;

/**
 * The document once more, in another way than the class: trees of functions, exceptions for FAULTS and for what is
 * REFUSED, BigIntegers, and all rows tried. ModelTest holds the class against it.
 */
final class Model {
    private static final class Fault extends Exception {
        private static final long serialVersionUID = 1L;
        private final int answer;

        Fault(int number, int place) {
            answer = -1000 * number - place;
        }
    }

    private static final class Refused extends RuntimeException {
        private static final long serialVersionUID = 1L;
    }

    private interface Formula {
        boolean holds(int world);
    }

    private interface Value {
        int in(Map<Character, Integer> letters);
    }

    private interface Condition {
        boolean holds(Map<Character, Integer> letters);
    }

    private record Rule(char kind, Value value, Condition condition) {
    }

    private record Answer(int w, int k, boolean yes, boolean cried, int strength, int layers, int week, int honesty) {
    }

    private record Sitter(int honesty, List<Integer> onion) {
        Sitter copy() {
            return new Sitter(honesty, new ArrayList<>(onion));
        }
    }

    private static final class State {
        private final TreeMap<Integer, Sitter> sitters = new TreeMap<>();
        private final List<Answer> answers = new ArrayList<>();
        private int week = 0;
        private int x = 1;

        State copy() {
            State other = new State();
            sitters.forEach((w, s) -> other.sitters.put(w, s.copy()));
            other.answers.addAll(answers);
            other.week = week;
            other.x = x;
            return other;
        }
    }

    private final int[] priors = {5, 5, 5, 5, 5};
    private final TreeMap<Integer, Formula> questions = new TreeMap<>();
    private List<Rule> law = new ArrayList<>();
    private List<Integer> tape = new ArrayList<>();
    private State now = new State();
    private State kept = null;

    // a text and the place in it
    private List<Integer> text = List.of();
    private int at = 0;

    private int sign() {
        return at < text.size() ? text.get(at) : -1;
    }

    private boolean isOneOf(String signs) {
        return sign() >= 0 && signs.indexOf(sign()) >= 0;
    }

    private char next(String signs) throws Fault {
        if (!isOneOf(signs)) {
            throw new Fault(1, at);
        }
        return (char) (int) text.get(at++);
    }

    private void end() throws Fault {
        if (at < text.size()) {
            throw new Fault(1, at);
        }
    }

    private boolean canCut(int n, int least, int most) {
        return n >= least && n <= most && n <= tape.size();
    }

    private void cut(int n) {
        text = new ArrayList<>(tape.subList(0, n));
        tape = new ArrayList<>();
        at = 0;
    }

    boolean prior(int i, int tenths) {
        if (i < 0 || i > 4 || tenths < 0 || tenths > 10) {
            return false;
        }
        priors[i] = tenths;
        return true;
    }

    boolean witness(int w, int honesty) {
        if (w < 0 || w > 9 || honesty < 0 || honesty > 9) {
            return false;
        }
        now.sitters.put(w, new Sitter(honesty, new ArrayList<>()));
        return true;
    }

    int feed(int... words) {
        if (tape.size() + 20 > 260) {
            return -1;
        }
        for (int word : words) {
            for (int part = 3; part >= 0; part--) {
                tape.add(word >>> 8 * part & 0xFF);
            }
        }
        return tape.size();
    }

    // THE LAW

    int law(int n) {
        if (!canCut(n, 1, 240)) {
            return -1;
        }
        cut(n);
        try {
            List<Rule> rules = new ArrayList<>();
            do {
                if (isOneOf("lcgyb") && rules.size() == 16) {
                    throw new Fault(4, at);
                }
                char kind = next("lcgyb");
                Value value = sum(0);
                next("(");
                Condition condition = condition(1);
                next(")");
                rules.add(new Rule(kind, value, condition));
            } while (at < text.size() && next(";") == ';');
            law = rules;
            return rules.size();
        } catch (Fault fault) {
            return fault.answer;
        }
    }

    private int deeper(int open) throws Fault {
        if (open == 6) {
            throw new Fault(5, at);
        }
        return open + 1;
    }

    private Condition condition(int open) throws Fault {
        List<Condition> parts = new ArrayList<>();
        parts.add(part(open));
        while (isOneOf("|")) {
            at++;
            parts.add(part(open));
        }
        return v -> {
            for (Condition part : parts) {
                if (part.holds(v)) {
                    return true;
                }
            }
            return false;
        };
    }

    private Condition part(int open) throws Fault {
        List<Condition> tests = new ArrayList<>();
        tests.add(test(open));
        while (isOneOf("&")) {
            at++;
            tests.add(test(open));
        }
        return v -> {
            for (Condition test : tests) {
                if (!test.holds(v)) {
                    return false;
                }
            }
            return true;
        };
    }

    private Condition test(int open) throws Fault {
        if (isOneOf("!")) {
            int inside = deeper(open);
            at++;
            Condition test = test(inside);
            return v -> !test.holds(v);
        }
        if (isOneOf("(")) {
            int inside = deeper(open);
            at++;
            Condition all = condition(inside);
            next(")");
            return all;
        }
        Value left = sum(open);
        char how = next("<>=");
        Value right = sum(open);
        return v -> {
            int a = left.in(v);
            int b = right.in(v);
            return how == '<' ? a < b : how == '>' ? a > b : a == b;
        };
    }

    private Value sum(int open) throws Fault {
        Value value = product(open);
        while (isOneOf("+-")) {
            Value left = value;
            char how = next("+-");
            Value right = product(open);
            value = v -> how == '+' ? left.in(v) + right.in(v) : left.in(v) - right.in(v);
        }
        return value;
    }

    private Value product(int open) throws Fault {
        Value value = factor(open);
        while (isOneOf("*/%")) {
            Value left = value;
            char how = next("*/%");
            Value right = factor(open);
            value = v -> {
                int a = left.in(v);
                int b = right.in(v);
                if (how == '*') {
                    return a * b;
                }
                if (b == 0) {
                    throw new Refused();
                }
                return how == '/' ? a / b : a % b;
            };
        }
        return value;
    }

    private Value factor(int open) throws Fault {
        if (isOneOf("[")) {
            int inside = deeper(open);
            at++;
            Value value = sum(inside);
            next("]");
            return value;
        }
        if (isOneOf("0123456789")) {
            String digits = "";
            while (isOneOf("0123456789")) {
                if (digits.length() == 5) {
                    throw new Fault(2, at);
                }
                digits += next("0123456789");
            }
            int value = Integer.parseInt(digits);
            return v -> value;
        }
        char letter = next("whsjkfzt");
        return v -> v.getOrDefault(letter, 0);
    }

    private int lawOf(char kind, Map<Character, Integer> letters) {
        for (Rule rule : law) {
            if (rule.kind == kind && holds(rule.condition, letters)) {
                int most = kind == 'g' || kind == 'y' ? 20 : 10;
                try {
                    return Math.max(0, Math.min(most, rule.value.in(letters)));
                } catch (Refused refused) {
                    return 0;
                }
            }
        }
        return 0;
    }

    private static boolean holds(Condition condition, Map<Character, Integer> letters) {
        try {
            return condition.holds(letters);
        } catch (Refused refused) {
            return false;
        }
    }

    // QUESTIONS

    int question(int k, int n) {
        if (k < 0 || k > 7 || !canCut(n, 1, 60)) {
            return -1;
        }
        cut(n);
        try {
            Formula formula = sides(0);
            end();
            questions.put(k, formula);
            return count(20 + k);
        } catch (Fault fault) {
            return fault.answer;
        }
    }

    private Formula sides(int open) throws Fault {
        Formula left = odds(open);
        while (isOneOf("|")) {
            at++;
            Formula one = left;
            Formula other = odds(open);
            left = world -> one.holds(world) || other.holds(world);
        }
        return left;
    }

    private Formula odds(int open) throws Fault {
        Formula left = pieces(open);
        while (isOneOf("^")) {
            at++;
            Formula one = left;
            Formula other = pieces(open);
            left = world -> one.holds(world) != other.holds(world);
        }
        return left;
    }

    private Formula pieces(int open) throws Fault {
        Formula left = piece(open);
        while (isOneOf("&")) {
            at++;
            Formula one = left;
            Formula other = piece(open);
            left = world -> one.holds(world) && other.holds(world);
        }
        return left;
    }

    private Formula piece(int open) throws Fault {
        if (isOneOf("!(")) {
            int inside = deeper(open);
            char how = next("!(");
            if (how == '!') {
                Formula piece = piece(inside);
                return world -> !piece.holds(world);
            }
            Formula formula = sides(inside);
            next(")");
            return formula;
        }
        char sign = next("abcde01");
        return world -> sign == '1' || sign != '0' && (world >> sign - 'a') % 2 == 1;
    }

    // ONIONS

    int onion(int w, int n) {
        if (!now.sitters.containsKey(w) || !canCut(n, 1, 60)) {
            return -1;
        }
        cut(n);
        try {
            List<Integer> layers = new ArrayList<>();
            do {
                int first = at;
                String number = "" + next("0123456789");
                if (isOneOf("0123456789")) {
                    number += next("0123456789");
                }
                if (Integer.parseInt(number) == 0) {
                    throw new Fault(3, first);
                }
                int times = 1;
                if (isOneOf("x")) {
                    at++;
                    times = next("23456789") - '0';
                }
                if (layers.size() + times > 12) {
                    throw new Fault(6, first);
                }
                layers.addAll(Collections.nCopies(times, Integer.parseInt(number)));
            } while (at < text.size() && next(",") == ',');
            now.sitters.put(w, new Sitter(now.sitters.get(w).honesty, layers));
            return layers.size();
        } catch (Fault fault) {
            return fault.answer;
        }
    }

    // ANSWERS

    int transcript(int n) {
        if (!canCut(n, 1, 100)) {
            return -1;
        }
        cut(n);
        State before = now.copy();
        try {
            do {
                int place = at;
                int w = next("0123456789") - '0';
                if (now.answers.size() == 20) {
                    throw new Fault(4, place);
                }
                if (!now.sitters.containsKey(w)) {
                    throw new Fault(7, place);
                }
                if (now.sitters.get(w).onion.isEmpty()) {
                    throw new Fault(8, place);
                }
                place = at;
                int k = next("ABCDEFGH") - 'A';
                if (!questions.containsKey(k)) {
                    throw new Fault(7, place);
                }
                boolean yes = next("+-") == '+';
                boolean cried = isOneOf("*");
                at += cried ? 1 : 0;
                answers(w, k, yes, cried);
            } while (at < text.size() && next(";") == ';');
            return now.answers.size();
        } catch (Fault fault) {
            now = before;
            return fault.answer;
        }
    }

    int answers(int w, int k, boolean yes, boolean cried) {
        Sitter one = now.sitters.get(w);
        if (one == null || !questions.containsKey(k)) {
            return -1;
        }
        if (now.answers.size() == 20) {
            return -2;
        }
        if (one.onion.isEmpty()) {
            return -3;
        }
        int layers = one.onion.size();
        int strength = one.onion.remove(0);
        now.answers.add(new Answer(w, k, yes, cried, strength, layers, now.week, one.honesty));
        return strength;
    }

    int strike() {
        if (now.answers.isEmpty()) {
            return -2;
        }
        now.answers.remove(now.answers.size() - 1);
        return now.answers.size();
    }

    // WEEKS

    /** Sprouts and LAYERS gone. */
    private int[] pass(State state, int n) {
        int[] found = new int[2];
        for (int i = 0; i < n; i++) {
            if (state.week == 999) {
                return found;
            }
            state.sitters.forEach((w, one) -> live(state, w, one, found));
            state.week++;
        }
        return found;
    }

    private void live(State state, int w, Sitter one, int[] found) {
        List<Integer> onion = one.onion;
        if (onion.isEmpty()) {
            return;
        }
        List<Integer> aged = new ArrayList<>();
        for (int strength : onion) {
            Map<Character, Integer> v =
                Map.of('w', w, 'h', one.honesty, 's', strength, 'j', onion.size(), 't', state.week);
            int then = strength + lawOf('g', v) - lawOf('y', v);
            aged.add(then < 0 ? 0 : then > 99 ? 99 : then);
        }
        int before = onion.size();
        onion.clear();
        onion.addAll(aged);
        onion.removeIf(strength -> strength == 0);
        found[1] += before - onion.size();
        if (onion.isEmpty()) {
            return;
        }
        state.x = (int) ((25173L * state.x + 13849) % 65536);
        Map<Character, Integer> v =
            Map.of('w', w, 'h', one.honesty, 's', onion.get(0), 'j', onion.size(), 't', state.week);
        if (state.x % 10 < lawOf('b', v) && onion.size() < 12) {
            onion.add(0, 50);
            found[0]++;
        }
    }

    int weeks(int n) {
        return n < 1 || n > 60 ? -1 : pass(now, n)[0];
    }

    int tried(int n, int what) {
        boolean isKnown = what == 0 || what == 1
            || what >= 10 && what < 20 && now.sitters.containsKey(what - 10)
            || what >= 20 && what < 30 && now.sitters.containsKey(what - 20);
        if (n < 1 || n > 60 || !isKnown) {
            return -1;
        }
        State state = now.copy();
        int[] found = pass(state, n);
        if (what < 2) {
            return found[what];
        }
        List<Integer> onion = state.sitters.get(what % 10).onion;
        return what < 20 ? onion.size() : sumOf(onion);
    }

    private static int sumOf(List<Integer> numbers) {
        return numbers.stream().mapToInt(Integer::intValue).sum();
    }

    // what is told of WITNESSES and ANSWERS

    int witnessIs(int w, int what) {
        Sitter one = now.sitters.get(w);
        if (one == null) {
            return -1;
        }
        int size = one.onion.size();
        if (what >= 10 && what <= 21) {
            return what - 10 < size ? one.onion.get(what - 10) : -2;
        }
        return switch (what) {
            case 0 -> one.honesty;
            case 1 -> size;
            case 2 -> sumOf(one.onion);
            case 3 -> size == 0 ? -2 : one.onion.get(size % 2 == 1 ? size / 2 : size / 2 - 1);
            case 4 -> (int) now.answers.stream().filter(a -> a.w == w && a.cried).count();
            case 5 -> (int) now.answers.stream().filter(a -> a.w == w).count();
            default -> -1;
        };
    }

    int answerIs(int i, int what) {
        if (i < 0 || i >= now.answers.size() || what < 0 || what > 6) {
            return -1;
        }
        Answer a = now.answers.get(i);
        return List.of(a.w, a.k, a.yes ? 1 : 0, a.cried ? 1 : 0, a.strength, a.layers, a.week).get(what);
    }

    // what is weighed

    private List<Answer> chosen(int bits, int most) {
        List<Answer> found = new ArrayList<>();
        for (int i = 0; i < 32; i++) {
            if ((bits >>> i & 1) == 1) {
                if (i >= now.answers.size()) {
                    return null;
                }
                found.add(now.answers.get(i));
            }
        }
        return found.size() > most ? null : found;
    }

    private boolean lies(Answer a, int world) {
        return a.yes != questions.get(a.k).holds(world);
    }

    private BigInteger weight(int world, List<Answer> answers) {
        BigInteger weight = BigInteger.ONE;
        for (int i = 0; i < 5; i++) {
            weight = weight.multiply(BigInteger.valueOf((world >> i & 1) == 1 ? priors[i] : 10 - priors[i]));
        }
        for (Answer a : answers) {
            boolean isLie = lies(a, world);
            TreeMap<Character, Integer> v = new TreeMap<>(Map.of('w', a.w, 'h', a.honesty, 's', a.strength,
                'j', a.layers, 'k', a.k, 'f', questions.get(a.k).holds(world) ? 1 : 0, 't', a.week));
            int l = lawOf('l', v);
            v.put('z', isLie ? 1 : 0);
            int c = lawOf('c', v);
            weight = weight.multiply(BigInteger.valueOf(isLie ? l : 10 - l));
            weight = weight.multiply(BigInteger.valueOf(a.cried ? c : 10 - c));
        }
        return weight;
    }

    private BigInteger within(Formula formula, List<Answer> answers) {
        BigInteger sum = BigInteger.ZERO;
        for (int world = 0; world < 32; world++) {
            if (formula.holds(world)) {
                sum = sum.add(weight(world, answers));
            }
        }
        return sum;
    }

    private long part(Formula formula, List<Answer> answers, int what) {
        BigInteger all = within(world -> true, answers);
        if (all.signum() == 0) {
            return -2;
        }
        BigInteger some = within(formula, answers);
        return (what == 0 ? some : all).divide(some.gcd(all)).longValueExact();
    }

    long likely(int k, int answers, int what) {
        if (!questions.containsKey(k) || chosen(answers, 6) == null || what < 0 || what > 1) {
            return -1;
        }
        return part(questions.get(k), chosen(answers, 6), what);
    }

    long lie(int i, int answers, int what) {
        if (i < 0 || i >= now.answers.size() || chosen(answers, 6) == null || what < 0 || what > 1) {
            return -1;
        }
        return part(world -> lies(now.answers.get(i), world), chosen(answers, 6), what);
    }

    int world(int answers, int what) {
        List<Answer> chosen = chosen(answers, 6);
        if (chosen == null || what < 0 || what > 1) {
            return -1;
        }
        BigInteger all = within(world -> true, chosen);
        if (all.signum() == 0) {
            return -2;
        }
        int best = 0;
        int facts = 0;
        for (int world = 31; world >= 0; world--) {
            if (weight(world, chosen).compareTo(weight(best, chosen)) >= 0) {
                best = world;
            }
        }
        for (int i = 0; i < 5; i++) {
            int fact = i;
            BigInteger so = within(world -> (world >> fact & 1) == 1, chosen);
            facts += so.compareTo(all.subtract(so)) > 0 ? 1 << i : 0;
        }
        return what == 0 ? best : facts;
    }

    int askNext(int answers) {
        List<Answer> chosen = chosen(answers, 6);
        if (chosen == null) {
            return -1;
        }
        BigInteger all = within(world -> true, chosen);
        int best = -2;
        BigInteger least = null;
        for (int k : questions.keySet()) {
            BigInteger some = within(questions.get(k), chosen);
            BigInteger off = some.subtract(all.subtract(some)).abs();
            if (all.signum() > 0 && (least == null || off.compareTo(least) < 0)) {
                best = k;
                least = off;
            }
        }
        return best;
    }

    // if nobody lied

    private List<Integer> fitting(List<Answer> answers) {
        List<Integer> worlds = new ArrayList<>();
        for (int world = 0; world < 32; world++) {
            int v = world;
            if (answers.stream().noneMatch(a -> lies(a, v))) {
                worlds.add(world);
            }
        }
        return worlds;
    }

    long ifTrue(int answers) {
        List<Answer> chosen = chosen(answers, 32);
        return chosen == null ? -1 : fitting(chosen).stream().mapToLong(world -> 1L << world).sum();
    }

    int liars(int what) {
        if (what < 0 || what > 1) {
            return -1;
        }
        for (int size = 0; size <= 10; size++) {
            for (int set = 0; set < 1024; set++) {
                int liars = set;
                List<Answer> rest = now.answers.stream().filter(a -> (liars >> a.w & 1) == 0).toList();
                if (Integer.bitCount(set) == size && !fitting(rest).isEmpty()) {
                    return what == 0 ? size : set;
                }
            }
        }
        throw new IllegalStateException();
    }

    int against() {
        int twos = 0;
        for (Answer a : now.answers) {
            for (Answer b : now.answers) {
                twos += a != b && fitting(List.of(a, b)).isEmpty() ? 1 : 0;
            }
        }
        return twos / 2;
    }

    int follows(int answers, int what) {
        List<Answer> chosen = chosen(answers, 32);
        if (chosen == null || what < 0 || what > 1) {
            return -1;
        }
        List<Integer> worlds = fitting(chosen);
        int bits = 0;
        for (int k : questions.keySet()) {
            Formula formula = questions.get(k);
            bits += worlds.stream().allMatch(world -> formula.holds(world) == (what == 0)) ? 1 << k : 0;
        }
        return bits;
    }

    int agree(int w, int v, int what) {
        if (w == v || !now.sitters.containsKey(w) || !now.sitters.containsKey(v) || what < 0 || what > 1) {
            return -1;
        }
        TreeMap<Integer, Boolean> ofW = new TreeMap<>();
        TreeMap<Integer, Boolean> ofV = new TreeMap<>();
        for (Answer a : now.answers) {
            if (a.w == w) {
                ofW.put(a.k, a.yes);
            }
            if (a.w == v) {
                ofV.put(a.k, a.yes);
            }
        }
        ofW.keySet().retainAll(ofV.keySet());
        long alike = ofW.entrySet().stream().filter(e -> e.getValue().equals(ofV.get(e.getKey()))).count();
        return (int) (what == 0 ? alike : ofW.size() - alike);
    }

    int tears(int k) {
        return questions.containsKey(k) ? (int) now.answers.stream().filter(a -> a.k == k && a.cried).count() : -1;
    }

    // alibis, skins, onions

    int seen(int n, int speed, int what) {
        if (n < 1 || n > 12 || speed < 0 || speed > 99 || what < 0 || what > 1 || !canCut(2 * n, 2, 24)) {
            return -1;
        }
        cut(2 * n);
        int best = 0;
        for (int set = (1 << n) - 1; set > 0; set--) {
            if (Integer.bitCount(set) >= Integer.bitCount(best) && canAll(set, n, speed)) {
                best = set;
            }
        }
        return what == 0 ? Integer.bitCount(best) : best;
    }

    private boolean canAll(int set, int n, int speed) {
        for (int i = 0; i < n; i++) {
            for (int j = i + 1; j < n; j++) {
                int hours = Math.abs(text.get(2 * i) - text.get(2 * j));
                int spots = Math.abs(text.get(2 * i + 1) - text.get(2 * j + 1));
                if ((set >> i & set >> j & 1) == 1 && spots > hours * speed) {
                    return false;
                }
            }
        }
        return true;
    }

    private int[] bestRow;

    int skins(int n, int size, int what) {
        if (size < 1 || size > 255 || !canCut(n, 1, 10)) {
            return -1;
        }
        cut(n);
        for (int skin : text) {
            if (skin == 0 || skin > 99 || skin > size) {
                return -2;
            }
        }
        if (what != 20 && (what < 0 || what >= n)) {
            return -4;
        }
        bestRow = null;
        allRows(new int[n], 0, 0, size);
        return what == 20 ? boxesOf(bestRow) : bestRow[what];
    }

    private static int boxesOf(int[] row) {
        return Arrays.stream(row).max().getAsInt() + 1;
    }

    private void allRows(int[] row, int i, int begun, int size) {
        if (i == row.length) {
            int[] loads = new int[row.length];
            for (int j = 0; j < row.length; j++) {
                loads[row[j]] += text.get(j);
            }
            boolean isBetter = bestRow == null || boxesOf(row) < boxesOf(bestRow)
                || boxesOf(row) == boxesOf(bestRow) && Arrays.compare(row, bestRow) < 0;
            if (isBetter && Arrays.stream(loads).max().getAsInt() <= size) {
                bestRow = row.clone();
            }
            return;
        }
        for (int box = begun; box >= 0; box--) {
            row[i] = box;
            allRows(row, i + 1, Math.max(begun, box + 1), size);
        }
    }

    int onionsFor(int witnesses, int what) {
        List<Integer> members = new ArrayList<>();
        for (int w = 0; w < 32; w++) {
            if ((witnesses >>> w & 1) == 1) {
                members.add(w);
            }
        }
        boolean isTold = now.sitters.keySet().containsAll(members);
        if (!isTold || members.size() < 2 || members.size() > 5 || what != 20 && !members.contains(what)) {
            return -1;
        }
        List<List<Integer>> rows = new ArrayList<>();
        changes(members, new ArrayList<>(), rows);
        List<Integer> best = rows.get(rows.size() - 1);
        for (int r = rows.size() - 1; r >= 0; r--) {
            if (worth(members, rows.get(r)) >= worth(members, best)) {
                best = rows.get(r);
            }
        }
        return what == 20 ? worth(members, best) : best.get(members.indexOf(what));
    }

    /** All rows, the least first. */
    private static void changes(List<Integer> members, List<Integer> row, List<List<Integer>> rows) {
        if (row.size() == members.size()) {
            rows.add(new ArrayList<>(row));
        }
        for (int w : members) {
            if (!row.contains(w)) {
                row.add(w);
                changes(members, row, rows);
                row.remove(row.size() - 1);
            }
        }
    }

    private int worth(List<Integer> members, List<Integer> row) {
        int sum = 0;
        for (int i = 0; i < row.size(); i++) {
            sum += now.sitters.get(members.get(i)).honesty * sumOf(now.sitters.get(row.get(i)).onion);
        }
        return sum;
    }

    int peeled(int w, int n) {
        Sitter one = now.sitters.get(w);
        if (one == null || n < 1 || n > 12) {
            return -1;
        }
        return n > one.onion.size() ? -2 : sumOf(one.onion.subList(0, n));
    }

    // the rest

    boolean seed(int x) {
        if (x < 0 || x > 65535) {
            return false;
        }
        now.x = x;
        return true;
    }

    int keep() {
        kept = now.copy();
        return now.answers.size();
    }

    boolean undo() {
        if (kept == null) {
            return false;
        }
        now = kept.copy();
        return true;
    }

    int check(int w, int n) {
        Sitter one = now.sitters.get(w);
        if (one == null || !canCut(n, 0, 12)) {
            return -2;
        }
        cut(n);
        for (int i = 0; i < n; i++) {
            int strength = i < one.onion.size() ? one.onion.get(i) : 0;
            if (text.get(i) != strength) {
                return i;
            }
        }
        return -1;
    }

    int count(int what) {
        if (what >= 10 && what <= 14) {
            return priors[what - 10];
        }
        if (what >= 20 && what <= 27) {
            Formula formula = questions.get(what - 20);
            return formula == null ? -1 : within(formula);
        }
        return switch (what) {
            case 0 -> now.week;
            case 1 -> now.answers.size();
            case 2 -> now.sitters.keySet().stream().mapToInt(w -> 1 << w).sum();
            case 3 -> questions.keySet().stream().mapToInt(k -> 1 << k).sum();
            case 4 -> law.size();
            case 5 -> tape.size();
            case 6 -> now.x;
            default -> -1;
        };
    }

    private static int within(Formula formula) {
        int worlds = 0;
        for (int world = 0; world < 32; world++) {
            worlds += formula.holds(world) ? 1 : 0;
        }
        return worlds;
    }
}
