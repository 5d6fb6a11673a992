/**
 * A court of onions: witnesses peel a layer to a question and cry or not, and what they said is weighed exactly.
 * No call makes an object: all rows are made by the constructors and used again.
 */
public final class OnionCourt {
    public static final int NONE = -1;

    private static final int FACTS = 5;
    private static final int WORLDS = 32;
    private static final int QUESTIONS = 8;
    private static final int WITNESSES = 10;
    private static final int LAYERS = 12;
    private static final int ANSWERS = 20;
    private static final int RULES = 16;
    private static final int SIGHTINGS = 12;
    private static final int SKINS = 10;
    private static final int SWAPPERS = 5;
    private static final int MOST_WEIGHED = 6;
    private static final int MOST_WEEKS = 60;
    private static final int LAST_WEEK = 999;
    private static final int STRONGEST = 99;
    private static final int SPROUT = 50;
    private static final int DEEPEST = 6;

    private static final int TAPE_BYTES = 260;
    private static final int LAW_BYTES = 240;
    private static final int QUESTION_BYTES = 60;
    private static final int ONION_BYTES = 60;
    private static final int TRANSCRIPT_BYTES = 100;

    private static final int MISSING = -2;
    private static final int FULL = -2;
    private static final int IMPOSSIBLE = -2;
    private static final int BARE = -3;
    private static final int NO_PLACE = -4;
    private static final int ALL = 20;

    /** The WORLDS (bits) in which each FACT is so. */
    private static final int[] WORLDS_OF_FACT = {0xAAAAAAAA, 0xCCCCCCCC, 0xF0F0F0F0, 0xFF00FF00, 0xFFFF0000};

    private final Tape tape;
    private final Questions questions;
    private final Law inForce;
    private final Law draft;
    private final Case matter;
    private final Scales scales;
    private final Archive now;
    private final Archive kept;
    private final Archive trial;
    private boolean isKept;
    private final Witness spare;
    private final Boxes boxes;
    private final Exchange exchange;
    private final int[] alibis;

    public OnionCourt() {
        tape = new Tape();
        questions = new Questions();
        inForce = new Law();
        draft = new Law();
        matter = new Case();
        scales = new Scales();
        now = new Archive();
        kept = new Archive();
        trial = new Archive();
        isKept = false;
        spare = new Witness();
        boxes = new Boxes();
        exchange = new Exchange();
        alibis = new int[SIGHTINGS];
    }

    public boolean prior(int i, int tenths) {
        if (i < 0 || i >= FACTS || tenths < 0 || tenths > 10) {
            return false;
        }
        scales.believe(i, tenths);
        return true;
    }

    public boolean witness(int w, int honesty) {
        if (w < 0 || w >= WITNESSES || honesty < 0 || honesty > 9) {
            return false;
        }
        now.call(w, honesty);
        return true;
    }

    public int feed(int a, int b, int c, int d, int e) {
        if (!tape.hasRoomFor(20)) {
            return NONE;
        }
        tape.append(a);
        tape.append(b);
        tape.append(c);
        tape.append(d);
        tape.append(e);
        return tape.size();
    }

    public int law(int n) {
        if (!tape.cut(n, 1, LAW_BYTES)) {
            return NONE;
        }
        LawReader.read(tape, draft);
        if (tape.isFaulty()) {
            return tape.fault();
        }
        inForce.copy(draft);
        return inForce.rules();
    }

    public int question(int k, int n) {
        if (k < 0 || k >= QUESTIONS || !tape.cut(n, 1, QUESTION_BYTES)) {
            return NONE;
        }
        int worlds = questions.read(tape);
        if (tape.isFaulty()) {
            return tape.fault();
        }
        questions.tell(k, worlds);
        return Integer.bitCount(worlds);
    }

    public int onion(int w, int n) {
        Witness owner = now.told(w);
        if (owner == null || !tape.cut(n, 1, ONION_BYTES)) {
            return NONE;
        }
        spare.copy(owner);
        spare.read(tape);
        if (tape.isFaulty()) {
            return tape.fault();
        }
        owner.copy(spare);
        return owner.layers();
    }

    public int transcript(int n) {
        if (!tape.cut(n, 1, TRANSCRIPT_BYTES)) {
            return NONE;
        }
        trial.copy(now);
        trial.hear(tape, questions);
        if (tape.isFaulty()) {
            return tape.fault();
        }
        now.copy(trial);
        return now.said();
    }

    public int answers(int w, int k, boolean yes, boolean cried) {
        if (now.told(w) == null || !questions.isTold(k)) {
            return NONE;
        }
        if (now.said() >= ANSWERS) {
            return FULL;
        }
        return now.say(w, k, yes, cried);
    }

    public int strike() {
        return now.forget() ? now.said() : MISSING;
    }

    public int weeks(int n) {
        if (n < 1 || n > MOST_WEEKS) {
            return NONE;
        }
        now.pass(n, inForce, matter);
        return now.sprouted();
    }

    public int tried(int n, int what) {
        boolean isOfOne = what >= 10 && what < 30;
        if (n < 1 || n > MOST_WEEKS || isOfOne && now.told(what % 10) == null || !isOfOne && what != 0 && what != 1) {
            return NONE;
        }
        trial.copy(now);
        trial.pass(n, inForce, matter);
        if (!isOfOne) {
            return what == 0 ? trial.sprouted() : trial.gone();
        }
        Witness one = trial.told(what % 10);
        if (one == null) {
            return NONE;
        }
        return what < 20 ? one.layers() : one.first(LAYERS);
    }

    public int witnessIs(int w, int what) {
        Witness one = now.told(w);
        if (one == null) {
            return NONE;
        }
        switch (what) {
            case 0: return one.honesty();
            case 1: return one.layers();
            case 2: return one.first(LAYERS);
            case 3: return one.layers() == 0 ? MISSING : one.layer((one.layers() - 1) / 2);
            case 4: return now.saidBy(w, true);
            case 5: return now.saidBy(w, false);
            default: break;
        }
        if (what < 10 || what >= 10 + LAYERS) {
            return NONE;
        }
        return what - 10 < one.layers() ? one.layer(what - 10) : MISSING;
    }

    public int answerIs(int i, int what) {
        Answer one = now.answer(i);
        return one == null ? NONE : one.is(what);
    }

    public long likely(int k, int answers, int what) {
        if (!questions.isTold(k) || !canWeigh(answers) || what != 0 && what != 1) {
            return NONE;
        }
        weigh(answers);
        return scales.part(questions.holds(k), what == 0);
    }

    public long lie(int i, int answers, int what) {
        Answer one = now.answer(i);
        if (one == null || !canWeigh(answers) || what != 0 && what != 1) {
            return NONE;
        }
        weigh(answers);
        return scales.part(~one.fits(questions), what == 0);
    }

    public int world(int answers, int what) {
        if (!canWeigh(answers) || what != 0 && what != 1) {
            return NONE;
        }
        weigh(answers);
        if (scales.all() == 0) {
            return IMPOSSIBLE;
        }
        return what == 0 ? scales.heaviest() : scales.likelyFacts();
    }

    public int askNext(int answers) {
        if (!canWeigh(answers)) {
            return NONE;
        }
        weigh(answers);
        return scales.all() == 0 ? IMPOSSIBLE : mostOpen();
    }

    public long ifTrue(int answers) {
        if (!now.has(answers)) {
            return NONE;
        }
        return 0xFFFFFFFFL & now.fitting(answers, questions);
    }

    public int liars(int what) {
        if (what != 0 && what != 1) {
            return NONE;
        }
        int fewest = (1 << WITNESSES) - 1;
        for (int set = 0; set < 1 << WITNESSES; set++) {
            if (Integer.bitCount(set) < Integer.bitCount(fewest) && now.fittingWithout(set, questions) != 0) {
                fewest = set;
            }
        }
        return what == 0 ? Integer.bitCount(fewest) : fewest;
    }

    public int against() {
        int twos = 0;
        for (int i = 0; i < now.said(); i++) {
            for (int j = 0; j < i; j++) {
                if (now.fitting(1 << i | 1 << j, questions) == 0) {
                    twos++;
                }
            }
        }
        return twos;
    }

    public int follows(int answers, int what) {
        if (!now.has(answers) || what != 0 && what != 1) {
            return NONE;
        }
        int worlds = now.fitting(answers, questions);
        int sure = 0;
        for (int k = 0; k < QUESTIONS; k++) {
            int contrary = what == 0 ? ~questions.holds(k) : questions.holds(k);
            if (questions.isTold(k) && (worlds & contrary) == 0) {
                sure |= 1 << k;
            }
        }
        return sure;
    }

    public int agree(int w, int v, int what) {
        if (w == v || now.told(w) == null || now.told(v) == null || what != 0 && what != 1) {
            return NONE;
        }
        int found = 0;
        for (int k = 0; k < QUESTIONS; k++) {
            Answer one = now.lastOf(w, k);
            Answer other = now.lastOf(v, k);
            if (one != null && other != null && one.isLike(other) == (what == 0)) {
                found++;
            }
        }
        return found;
    }

    public int tears(int k) {
        return questions.isTold(k) ? now.criedAt(k) : NONE;
    }

    public int seen(int n, int speed, int what) {
        if (n < 1 || n > SIGHTINGS || speed < 0 || speed > 99 || what != 0 && what != 1) {
            return NONE;
        }
        if (!tape.cut(2 * n, 2, 2 * SIGHTINGS)) {
            return NONE;
        }
        int most = mostTrue(n, speed);
        return what == 0 ? Integer.bitCount(most) : most;
    }

    public int skins(int n, int size, int what) {
        if (size < 1 || size > 255 || !tape.cut(n, 1, SKINS)) {
            return NONE;
        }
        if (!boxes.lay(tape, n, size)) {
            return MISSING;
        }
        if (what != ALL && (what < 0 || what >= n)) {
            return NO_PLACE;
        }
        int fewest = boxes.pack();
        return what == ALL ? fewest : boxes.boxOf(what);
    }

    public int onionsFor(int witnesses, int what) {
        boolean isWho = what >= 0 && what < WITNESSES && (witnesses >> what & 1) == 1;
        if (!exchange.gather(witnesses, now) || what != ALL && !isWho) {
            return NONE;
        }
        exchange.settle();
        return what == ALL ? exchange.most() : exchange.whoseFor(what);
    }

    public int peeled(int w, int n) {
        Witness one = now.told(w);
        if (one == null || n < 1 || n > LAYERS) {
            return NONE;
        }
        return n > one.layers() ? MISSING : one.first(n);
    }

    public boolean seed(int x) {
        if (x < 0 || x > 65535) {
            return false;
        }
        now.sow(x);
        return true;
    }

    public int keep() {
        kept.copy(now);
        isKept = true;
        return now.said();
    }

    public boolean undo() {
        if (isKept) {
            now.copy(kept);
        }
        return isKept;
    }

    public int check(int w, int n) {
        Witness one = now.told(w);
        if (one == null || !tape.cut(n, 0, LAYERS)) {
            return MISSING;
        }
        for (int i = 0; i < n; i++) {
            if (tape.byteAt(i) != one.layer(i)) {
                return i;
            }
        }
        return NONE;
    }

    public int count(int what) {
        switch (what) {
            case 0: return now.week();
            case 1: return now.said();
            case 2: return now.toldOnes();
            case 3: return questions.toldOnes();
            case 4: return inForce.rules();
            case 5: return tape.size();
            case 6: return now.drawn();
            default: break;
        }
        if (what >= 10 && what < 10 + FACTS) {
            return scales.belief(what - 10);
        }
        if (what >= 20 && what < 20 + QUESTIONS && questions.isTold(what - 20)) {
            return Integer.bitCount(questions.holds(what - 20));
        }
        return NONE;
    }

    private boolean canWeigh(int answers) {
        return now.has(answers) && Integer.bitCount(answers) <= MOST_WEIGHED;
    }

    private void weigh(int answers) {
        scales.start();
        for (int i = 0; i < ANSWERS; i++) {
            Answer one = now.answer(i);
            if (one != null && (answers >> i & 1) == 1) {
                scales.add(one, questions.holds(one.asked()), inForce, matter);
            }
        }
    }

    /** The told QUESTION nearest to a half by what lies on the scales. */
    private int mostOpen() {
        int best = MISSING;
        long least = 0;
        for (int k = 0; k < QUESTIONS; k++) {
            long off = Math.abs(2 * scales.within(questions.holds(k)) - scales.all());
            if (questions.isTold(k) && (best == MISSING || off < least)) {
                least = off;
                best = k;
            }
        }
        return best;
    }

    private int mostTrue(int n, int speed) {
        for (int i = 0; i < n && i < alibis.length; i++) {
            alibis[i] = 0;
            for (int j = 0; j < n; j++) {
                if (canBoth(i, j, speed)) {
                    alibis[i] |= 1 << j;
                }
            }
        }
        int most = 0;
        for (int set = 1; set < 1 << n; set++) {
            if (Integer.bitCount(set) > Integer.bitCount(most) && isTogether(set, n)) {
                most = set;
            }
        }
        return most;
    }

    private boolean canBoth(int i, int j, int speed) {
        int hours = Math.abs(tape.byteAt(2 * i) - tape.byteAt(2 * j));
        int spots = Math.abs(tape.byteAt(2 * i + 1) - tape.byteAt(2 * j + 1));
        return spots <= speed * hours;
    }

    private boolean isTogether(int set, int n) {
        for (int i = 0; i < n && i < alibis.length; i++) {
            if ((set >> i & 1) == 1 && (set & ~alibis[i]) != 0) {
                return false;
            }
        }
        return true;
    }

    /** The tape, and the text that was cut from it last, with a finger on the byte that is read next. */
    private static final class Tape {
        private static final int END = -1;

        private final int[] bytes = new int[TAPE_BYTES];
        private int size;
        private int length;
        private int place;
        private int fault;

        boolean hasRoomFor(int more) {
            return size + more <= TAPE_BYTES;
        }

        void append(int word) {
            for (int shift = 24; shift >= 0; shift -= 8) {
                if (size >= 0 && size < bytes.length) {
                    bytes[size] = word >> shift & 255;
                    size++;
                }
            }
        }

        int size() {
            return size;
        }

        /** The bytes stay where they are: they are read before anything is fed again. */
        boolean cut(int n, int least, int most) {
            if (n < least || n > most || n > size) {
                return false;
            }
            size = 0;
            length = n;
            place = 0;
            fault = 0;
            return true;
        }

        int byteAt(int i) {
            return i >= 0 && i < length && i < bytes.length ? bytes[i] : 0;
        }

        int place() {
            return place;
        }

        /** Behind a FAULT nothing but the end is read, so that every reader comes to its own end. */
        int sign() {
            boolean isInside = place >= 0 && place < length && place < bytes.length;
            return fault == 0 && isInside ? bytes[place] : END;
        }

        /** Takes a digit: its value, NONE if there stands none. */
        int digit() {
            int value = sign() - '0';
            if (value < 0 || value > 9) {
                return NONE;
            }
            place++;
            return value;
        }

        void step() {
            if (place < length) {
                place++;
            }
        }

        boolean take(int sign) {
            boolean isIt = sign() == sign;
            if (isIt) {
                step();
            }
            return isIt;
        }

        void expect(int sign) {
            if (!take(sign)) {
                refuse(1, place);
            }
        }

        void expectEnd() {
            if (sign() != END) {
                refuse(1, place);
            }
        }

        /** The first FAULT stays: what is found behind it may only come of it. */
        void refuse(int number, int at) {
            if (fault == 0) {
                fault = -1000 * number - at;
            }
        }

        boolean isFaulty() {
            return fault != 0;
        }

        int fault() {
            return fault;
        }
    }

    /** QUESTIONS are held as the WORLDS (bits) in which they hold, so that no FORMULA is read twice. */
    private static final class Questions {
        private final int[] worlds = new int[QUESTIONS];
        private int told;

        boolean isTold(int k) {
            return k >= 0 && k < QUESTIONS && (told >> k & 1) == 1;
        }

        int toldOnes() {
            return told;
        }

        int holds(int k) {
            return k >= 0 && k < worlds.length ? worlds[k] : 0;
        }

        void tell(int k, int in) {
            if (k >= 0 && k < worlds.length) {
                worlds[k] = in;
                told |= 1 << k;
            }
        }

        int read(Tape text) {
            int in = sides(text, 0);
            text.expectEnd();
            return in;
        }

        private static int sides(Tape text, int open) {
            int in = odds(text, open);
            for (int i = 0; i < QUESTION_BYTES && text.take('|'); i++) {
                in |= odds(text, open);
            }
            return in;
        }

        private static int odds(Tape text, int open) {
            int in = pieces(text, open);
            for (int i = 0; i < QUESTION_BYTES && text.take('^'); i++) {
                in ^= pieces(text, open);
            }
            return in;
        }

        private static int pieces(Tape text, int open) {
            int in = piece(text, open);
            for (int i = 0; i < QUESTION_BYTES && text.take('&'); i++) {
                in &= piece(text, open);
            }
            return in;
        }

        private static int piece(Tape text, int open) {
            int sign = text.sign();
            if (sign == '(' || sign == '!') {
                return opened(text, open);
            }
            int fact = sign - 'a';
            if (fact >= 0 && fact < WORLDS_OF_FACT.length) {
                text.step();
                return WORLDS_OF_FACT[fact];
            }
            if (text.take('1')) {
                return -1;
            }
            text.expect('0');
            return 0;
        }

        private static int opened(Tape text, int open) {
            if (open >= DEEPEST) {
                text.refuse(5, text.place());
                return 0;
            }
            if (text.take('!')) {
                return ~piece(text, open + 1);
            }
            text.expect('(');
            int in = sides(text, open + 1);
            text.expect(')');
            return in;
        }
    }

    /** A WITNESS and the ONION. */
    private static final class Witness {
        private final int[] strengths = new int[LAYERS];
        private int layers;
        private int honesty;
        private boolean told;

        void tell(int honestyNow) {
            told = true;
            honesty = honestyNow;
            layers = 0;
        }

        void copy(Witness other) {
            told = other.told;
            honesty = other.honesty;
            layers = other.layers;
            for (int i = 0; i < LAYERS; i++) {
                strengths[i] = other.strengths[i];
            }
        }

        boolean isTold() {
            return told;
        }

        int honesty() {
            return honesty;
        }

        int layers() {
            return layers;
        }

        /** 0 behind the last LAYER. */
        int layer(int i) {
            return i >= 0 && i < layers && i < strengths.length ? strengths[i] : 0;
        }

        /** STRENGTHS of the first n LAYERS together. */
        int first(int n) {
            int sum = 0;
            for (int i = 0; i < n && i < LAYERS; i++) {
                sum += layer(i);
            }
            return sum;
        }

        int peel() {
            int outermost = layer(0);
            for (int i = 1; i < LAYERS; i++) {
                strengths[i - 1] = strengths[i];
            }
            layers = Math.max(0, layers - 1);
            return outermost;
        }

        boolean sprout() {
            if (layers >= LAYERS) {
                return false;
            }
            for (int i = LAYERS - 1; i > 0; i--) {
                strengths[i] = strengths[i - 1];
            }
            strengths[0] = SPROUT;
            layers++;
            return true;
        }

        /** How many LAYERS are gone. */
        int age(Law law, Case matter) {
            int left = 0;
            for (int i = 0; i < layers && i < LAYERS; i++) {
                matter.show(strengths[i], layers);
                int grown = strengths[i] + law.ask('g', matter) - law.ask('y', matter);
                if (grown > 0) {
                    strengths[left] = Math.min(STRONGEST, grown);
                    left++;
                }
            }
            int gone = layers - left;
            layers = left;
            return gone;
        }

        void read(Tape text) {
            layers = 0;
            item(text);
            for (int i = 0; i < ONION_BYTES && text.take(','); i++) {
                item(text);
            }
            text.expectEnd();
        }

        private void item(Tape text) {
            int first = text.place();
            int strength = text.digit();
            if (strength < 0) {
                text.refuse(1, first);
            }
            int second = text.digit();
            if (second >= 0) {
                strength = 10 * strength + second;
            }
            if (strength == 0) {
                text.refuse(3, first);
            }
            int times = times(text);
            if (layers + times > LAYERS) {
                text.refuse(6, first);
            }
            for (int i = 0; i < times && layers >= 0 && layers < LAYERS; i++) {
                strengths[layers] = strength;
                layers++;
            }
        }

        private static int times(Tape text) {
            if (!text.take('x')) {
                return 1;
            }
            int at = text.place();
            int times = text.digit();
            if (times < 2) {
                text.refuse(1, at);
            }
            return times;
        }
    }

    /** An ANSWER with all that THE LAW may ask of it later. */
    private static final class Answer {
        private int witness;
        private int question;
        private boolean yes;
        private boolean cried;
        private int strength;
        private int layers;
        private int week;
        private int honesty;

        void tell(int w, int k, boolean isYes, boolean isCried) {
            witness = w;
            question = k;
            yes = isYes;
            cried = isCried;
        }

        void peel(Witness one, int inWeek) {
            layers = one.layers();
            strength = one.peel();
            honesty = one.honesty();
            week = inWeek;
        }

        void copy(Answer other) {
            tell(other.witness, other.question, other.yes, other.cried);
            strength = other.strength;
            layers = other.layers;
            week = other.week;
            honesty = other.honesty;
        }

        int who() {
            return witness;
        }

        int asked() {
            return question;
        }

        boolean hasCried() {
            return cried;
        }

        int strength() {
            return strength;
        }

        boolean isLike(Answer other) {
            return yes == other.yes;
        }

        int fits(Questions questions) {
            return yes ? questions.holds(question) : ~questions.holds(question);
        }

        int is(int what) {
            switch (what) {
                case 0: return witness;
                case 1: return question;
                case 2: return yes ? 1 : 0;
                case 3: return cried ? 1 : 0;
                case 4: return strength;
                case 5: return layers;
                case 6: return week;
                default: return NONE;
            }
        }

        /** The same in all WORLDS in which the QUESTION holds, and in all others: so it is asked but twice. */
        int weight(boolean holds, Law law, Case matter) {
            boolean lies = yes != holds;
            matter.open(witness, honesty, week);
            matter.show(strength, layers);
            matter.hear(question, holds);
            int lying = law.ask('l', matter);
            matter.tellLie(lies);
            int crying = law.ask('c', matter);
            return (lies ? lying : 10 - lying) * (cried ? crying : 10 - crying);
        }
    }

    /** What is KEPT: WITNESSES, ANSWERS, THE WEEK, X. */
    private static final class Archive {
        private final Witness[] witnesses = new Witness[WITNESSES];
        private final Answer[] answers = new Answer[ANSWERS];
        private int said;
        private int week;
        private int drawn;
        private int sprouted;
        private int gone;

        Archive() {
            drawn = 1;
            for (int w = 0; w < WITNESSES; w++) {
                witnesses[w] = new Witness();
            }
            for (int i = 0; i < ANSWERS; i++) {
                answers[i] = new Answer();
            }
        }

        void copy(Archive other) {
            for (int w = 0; w < WITNESSES; w++) {
                witnesses[w].copy(other.witnesses[w]);
            }
            for (int i = 0; i < ANSWERS; i++) {
                answers[i].copy(other.answers[i]);
            }
            said = other.said;
            week = other.week;
            drawn = other.drawn;
        }

        void call(int w, int honesty) {
            if (w >= 0 && w < WITNESSES) {
                witnesses[w].tell(honesty);
            }
        }

        Witness told(int w) {
            return w >= 0 && w < WITNESSES && witnesses[w].isTold() ? witnesses[w] : null;
        }

        int toldOnes() {
            int ones = 0;
            for (int w = 0; w < WITNESSES; w++) {
                ones |= told(w) == null ? 0 : 1 << w;
            }
            return ones;
        }

        Answer answer(int i) {
            return i >= 0 && i < said && i < ANSWERS ? answers[i] : null;
        }

        boolean has(int bits) {
            return bits >= 0 && bits < 1 << said;
        }

        int said() {
            return said;
        }

        int week() {
            return week;
        }

        int drawn() {
            return drawn;
        }

        int sprouted() {
            return sprouted;
        }

        int gone() {
            return gone;
        }

        void sow(int x) {
            drawn = x;
        }

        int say(int w, int k, boolean yes, boolean cried) {
            Witness one = told(w);
            if (one == null || one.layers() == 0 || said < 0 || said >= ANSWERS) {
                return BARE;
            }
            answers[said].tell(w, k, yes, cried);
            answers[said].peel(one, week);
            said++;
            return answers[said - 1].strength();
        }

        boolean forget() {
            if (said <= 0) {
                return false;
            }
            said--;
            return true;
        }

        void hear(Tape text, Questions questions) {
            line(text, questions);
            for (int i = 0; i < TRANSCRIPT_BYTES && text.take(';'); i++) {
                line(text, questions);
            }
            text.expectEnd();
        }

        private void line(Tape text, Questions questions) {
            int w = text.sign() - '0';
            refuse(text, whatIsWrongWith(w));
            text.step();
            int k = text.sign() - 'A';
            if (!questions.isTold(k)) {
                refuse(text, k < 0 || k >= QUESTIONS ? 1 : 7);
            }
            text.step();
            boolean yes = text.take('+');
            if (!yes) {
                text.expect('-');
            }
            boolean cried = text.take('*');
            if (!text.isFaulty()) {
                say(w, k, yes, cried);
            }
        }

        /** The number of the FAULT, 0 if w can ANSWER. */
        private int whatIsWrongWith(int w) {
            if (w < 0 || w >= WITNESSES) {
                return 1;
            }
            if (said >= ANSWERS) {
                return 4;
            }
            Witness one = told(w);
            if (one == null) {
                return 7;
            }
            return one.layers() == 0 ? 8 : 0;
        }

        private static void refuse(Tape text, int number) {
            if (number != 0) {
                text.refuse(number, text.place());
            }
        }

        void pass(int weeks, Law law, Case matter) {
            sprouted = 0;
            gone = 0;
            for (int i = 0; i < weeks && week < LAST_WEEK; i++) {
                for (int w = 0; w < WITNESSES; w++) {
                    live(w, law, matter);
                }
                week++;
            }
        }

        private void live(int w, Law law, Case matter) {
            Witness one = told(w);
            if (one == null) {
                return;
            }
            matter.open(w, one.honesty(), week);
            gone += one.age(law, matter);
            if (one.layers() == 0) {
                return;
            }
            matter.show(one.layer(0), one.layers());
            drawn = 25173 * drawn + 13849 & 65535;
            if (drawn % 10 < law.ask('b', matter) && one.sprout()) {
                sprouted++;
            }
        }

        int saidBy(int w, boolean onlyCried) {
            int found = 0;
            for (int i = 0; i < said && i < ANSWERS; i++) {
                if (answers[i].who() == w && (answers[i].hasCried() || !onlyCried)) {
                    found++;
                }
            }
            return found;
        }

        int criedAt(int k) {
            int found = 0;
            for (int i = 0; i < said && i < ANSWERS; i++) {
                if (answers[i].asked() == k && answers[i].hasCried()) {
                    found++;
                }
            }
            return found;
        }

        Answer lastOf(int w, int k) {
            Answer last = null;
            for (int i = 0; i < said && i < ANSWERS; i++) {
                if (answers[i].who() == w && answers[i].asked() == k) {
                    last = answers[i];
                }
            }
            return last;
        }

        int fitting(int bits, Questions questions) {
            int worlds = -1;
            for (int i = 0; i < said && i < ANSWERS; i++) {
                if ((bits >> i & 1) == 1) {
                    worlds &= answers[i].fits(questions);
                }
            }
            return worlds;
        }

        int fittingWithout(int liars, Questions questions) {
            int honest = 0;
            for (int i = 0; i < said && i < ANSWERS; i++) {
                honest |= (liars >> answers[i].who() & 1) == 1 ? 0 : 1 << i;
            }
            return fitting(honest, questions);
        }
    }

    /** What the letters of THE LAW stand for while it is asked; what is not told is 0. */
    private static final class Case {
        private int witness;
        private int honesty;
        private int strength;
        private int layers;
        private int question;
        private int holds;
        private int lies;
        private int week;

        void open(int w, int honestyThen, int weekThen) {
            witness = w;
            honesty = honestyThen;
            week = weekThen;
            question = 0;
            holds = 0;
            lies = 0;
        }

        void show(int strengthThen, int layersThen) {
            strength = strengthThen;
            layers = layersThen;
        }

        void hear(int k, boolean isSo) {
            question = k;
            holds = isSo ? 1 : 0;
        }

        void tellLie(boolean isLie) {
            lies = isLie ? 1 : 0;
        }

        static boolean isLetter(int sign) {
            switch (sign) {
                case 'w': case 'h': case 's': case 'j': case 'k': case 'f': case 'z': case 't': return true;
                default: return false;
            }
        }

        int of(int letter) {
            switch (letter) {
                case 'w': return witness;
                case 'h': return honesty;
                case 's': return strength;
                case 'j': return layers;
                case 'k': return question;
                case 'f': return holds;
                case 'z': return lies;
                case 't': return week;
                default: return 0;
            }
        }
    }

    /** THE LAW as steps on a stack: a RULE's E, then its C. */
    private static final class Law {
        private static final int NUMBER = '0';
        /** Beyond 32 bits, so that no value is taken for it. */
        private static final long REFUSED = 1L << 40;
        /** Six open signs leave no more than 16 values waiting. */
        private static final int STACK = 32;

        private final int[] steps = new int[LAW_BYTES];
        private final int[] numbers = new int[LAW_BYTES];
        private final int[] kinds = new int[RULES];
        private final int[] starts = new int[RULES];
        private final int[] turns = new int[RULES];
        private final int[] ends = new int[RULES];
        private final long[] stack = new long[STACK];
        private int size;
        private int rules;

        void clear() {
            size = 0;
            rules = 0;
        }

        void copy(Law other) {
            for (int i = 0; i < LAW_BYTES; i++) {
                steps[i] = other.steps[i];
                numbers[i] = other.numbers[i];
            }
            for (int r = 0; r < RULES; r++) {
                kinds[r] = other.kinds[r];
                starts[r] = other.starts[r];
                turns[r] = other.turns[r];
                ends[r] = other.ends[r];
            }
            size = other.size;
            rules = other.rules;
        }

        int rules() {
            return rules;
        }

        boolean isFull() {
            return rules >= RULES;
        }

        int size() {
            return size;
        }

        void add(int step, int number) {
            if (size >= 0 && size < LAW_BYTES) {
                steps[size] = step;
                numbers[size] = number;
                size++;
            }
        }

        void addRule(int kind, int start, int turn) {
            if (rules >= 0 && rules < RULES) {
                kinds[rules] = kind;
                starts[rules] = start;
                turns[rules] = turn;
                ends[rules] = size;
                rules++;
            }
        }

        static boolean isKind(int sign) {
            return sign == 'l' || sign == 'c' || sign == 'g' || sign == 'y' || sign == 'b';
        }

        int ask(int kind, Case matter) {
            int bound = kind == 'g' || kind == 'y' ? 20 : 10;
            for (int r = 0; r < rules && r < RULES; r++) {
                if (kinds[r] == kind && run(turns[r], ends[r], matter) == 1) {
                    long value = run(starts[r], turns[r], matter);
                    return value == REFUSED ? 0 : (int) Math.max(0, Math.min(bound, value));
                }
            }
            return 0;
        }

        private long run(int from, int to, Case matter) {
            int top = 0;
            for (int i = Math.max(0, from); i < to && i < LAW_BYTES; i++) {
                int step = steps[i];
                if (step == NUMBER || Case.isLetter(step)) {
                    if (top < STACK) {
                        stack[top] = step == NUMBER ? numbers[i] : matter.of(step);
                        top++;
                    }
                } else if (step == '!' && top >= 1) {
                    stack[top - 1] = stack[top - 1] == REFUSED ? REFUSED : 1 - stack[top - 1];
                } else if (top >= 2) {
                    stack[top - 2] = join(step, stack[top - 2], stack[top - 1]);
                    top--;
                }
            }
            return top > 0 ? stack[top - 1] : REFUSED;
        }

        /** Where the left side settles it, a REFUSED right side is as if it were not asked. */
        private static long join(int step, long left, long right) {
            if (left == REFUSED) {
                return REFUSED;
            }
            if (step == '&') {
                return left == 0 ? 0 : right;
            }
            if (step == '|') {
                return left == 1 ? 1 : right;
            }
            if (right == REFUSED) {
                return REFUSED;
            }
            int one = (int) left;
            int other = (int) right;
            switch (step) {
                case '+': return one + other;
                case '-': return one - other;
                case '*': return one * other;
                case '/': return other == 0 ? REFUSED : one / other;
                case '%': return other == 0 ? REFUSED : one % other;
                case '<': return one < other ? 1 : 0;
                case '>': return one > other ? 1 : 0;
                case '=': return one == other ? 1 : 0;
                default: return REFUSED;
            }
        }
    }

    /** Reads THE LAW from its text. */
    private static final class LawReader {
        private static final int DIGITS = 5;

        private LawReader() {
        }

        static void read(Tape text, Law law) {
            law.clear();
            boolean isMore = true;
            for (int i = 0; i <= RULES && isMore; i++) {
                int kind = text.sign();
                if (!Law.isKind(kind)) {
                    text.refuse(1, text.place());
                } else if (law.isFull()) {
                    text.refuse(4, text.place());
                }
                text.step();
                int start = law.size();
                terms(text, law, 0);
                int turn = law.size();
                text.expect('(');
                parts(text, law, 1);
                text.expect(')');
                law.addRule(kind, start, turn);
                isMore = text.take(';');
            }
            text.expectEnd();
        }

        private static void parts(Tape text, Law law, int open) {
            tests(text, law, open);
            for (int i = 0; i < LAW_BYTES && text.take('|'); i++) {
                tests(text, law, open);
                law.add('|', 0);
            }
        }

        private static void tests(Tape text, Law law, int open) {
            test(text, law, open);
            for (int i = 0; i < LAW_BYTES && text.take('&'); i++) {
                test(text, law, open);
                law.add('&', 0);
            }
        }

        private static void test(Tape text, Law law, int open) {
            int sign = text.sign();
            if (sign != '!' && sign != '(') {
                terms(text, law, open);
                int how = text.sign();
                if (how != '<' && how != '>' && how != '=') {
                    text.refuse(1, text.place());
                }
                text.step();
                terms(text, law, open);
                law.add(how, 0);
            } else if (canOpen(text, open)) {
                text.step();
                if (sign == '!') {
                    test(text, law, open + 1);
                    law.add('!', 0);
                } else {
                    parts(text, law, open + 1);
                    text.expect(')');
                }
            }
        }

        private static void terms(Tape text, Law law, int open) {
            factors(text, law, open);
            int sign = text.sign();
            for (int i = 0; i < LAW_BYTES && (sign == '+' || sign == '-'); i++) {
                text.step();
                factors(text, law, open);
                law.add(sign, 0);
                sign = text.sign();
            }
        }

        private static void factors(Tape text, Law law, int open) {
            factor(text, law, open);
            int sign = text.sign();
            for (int i = 0; i < LAW_BYTES && (sign == '*' || sign == '/' || sign == '%'); i++) {
                text.step();
                factor(text, law, open);
                law.add(sign, 0);
                sign = text.sign();
            }
        }

        private static void factor(Tape text, Law law, int open) {
            int sign = text.sign();
            if (sign == '[') {
                if (canOpen(text, open)) {
                    text.step();
                    terms(text, law, open + 1);
                    text.expect(']');
                }
            } else if (Case.isLetter(sign)) {
                text.step();
                law.add(sign, 0);
            } else {
                law.add(Law.NUMBER, number(text));
            }
        }

        private static int number(Tape text) {
            int digit = text.digit();
            if (digit < 0) {
                text.refuse(1, text.place());
            }
            int value = 0;
            for (int i = 0; i < DIGITS && digit >= 0; i++) {
                value = 10 * value + digit;
                digit = text.digit();
            }
            if (digit >= 0) {
                text.refuse(2, text.place() - 1);
            }
            return value;
        }

        private static boolean canOpen(Tape text, int open) {
            if (open >= DEEPEST) {
                text.refuse(5, text.place());
            }
            return open < DEEPEST;
        }
    }

    /** WORLDS and what each weighs by the ANSWERS that were added. */
    private static final class Scales {
        private final int[] tenths = new int[FACTS];
        private final long[] weights = new long[WORLDS];

        Scales() {
            for (int i = 0; i < FACTS; i++) {
                tenths[i] = 5;
            }
        }

        void believe(int i, int howMuch) {
            if (i >= 0 && i < FACTS) {
                tenths[i] = howMuch;
            }
        }

        int belief(int i) {
            return i >= 0 && i < FACTS ? tenths[i] : 0;
        }

        void start() {
            for (int v = 0; v < WORLDS; v++) {
                weights[v] = 1;
                for (int i = 0; i < FACTS; i++) {
                    weights[v] *= (v >> i & 1) == 1 ? tenths[i] : 10 - tenths[i];
                }
            }
        }

        void add(Answer one, int holds, Law law, Case matter) {
            int weightIfSo = one.weight(true, law, matter);
            int weightIfNot = one.weight(false, law, matter);
            for (int v = 0; v < WORLDS; v++) {
                weights[v] *= (holds >> v & 1) == 1 ? weightIfSo : weightIfNot;
            }
        }

        long within(int worlds) {
            long sum = 0;
            for (int v = 0; v < WORLDS; v++) {
                sum += (worlds >> v & 1) == 1 ? weights[v] : 0;
            }
            return sum;
        }

        long all() {
            return within(-1);
        }

        /** How likely it is to be in one of these WORLDS: above or below the line. */
        long part(int worlds, boolean isAbove) {
            long above = within(worlds);
            long below = all();
            if (below == 0) {
                return IMPOSSIBLE;
            }
            long divisor = commonDivisor(above, below);
            if (divisor == 0) {
                return IMPOSSIBLE;
            }
            return (isAbove ? above : below) / divisor;
        }

        /** Euclid's way needs at most some ninety rounds for 64 bits. */
        private static long commonDivisor(long above, long below) {
            long a = below;
            long b = above;
            for (int i = 0; i < 100 && b != 0; i++) {
                long rest = a % b;
                a = b;
                b = rest;
            }
            return a;
        }

        int heaviest() {
            int best = 0;
            for (int v = 1; v < WORLDS; v++) {
                if (weights[v] > weights[best]) {
                    best = v;
                }
            }
            return best;
        }

        int likelyFacts() {
            int facts = 0;
            for (int i = 0; i < FACTS; i++) {
                facts |= 2 * within(WORLDS_OF_FACT[i]) > all() ? 1 << i : 0;
            }
            return facts;
        }
    }

    /** SKINS in boxes: the first row that is found, with the least box tried first, is the least. */
    private static final class Boxes {
        private final int[] sizes = new int[SKINS];
        private final int[] row = new int[SKINS];
        private final int[] loads = new int[SKINS];
        private int skins;
        private int room;

        /** False if one does not go into any box. */
        boolean lay(Tape text, int n, int size) {
            skins = Math.min(n, SKINS);
            room = size;
            boolean fits = true;
            for (int i = 0; i < skins && i < SKINS; i++) {
                sizes[i] = text.byteAt(i);
                fits = fits && sizes[i] >= 1 && sizes[i] <= Math.min(room, STRONGEST);
            }
            return fits;
        }

        int pack() {
            for (int most = 1; most < skins; most++) {
                for (int b = 0; b < SKINS; b++) {
                    loads[b] = 0;
                }
                if (place(this, 0, 0, most)) {
                    return most;
                }
            }
            for (int i = 0; i < SKINS; i++) {
                row[i] = i;
            }
            return skins;
        }

        /** Calls itself once a skin, ten deep at most. */
        private static boolean place(Boxes in, int i, int begun, int most) {
            if (i < 0 || i >= in.skins || i >= SKINS) {
                return true;
            }
            for (int b = 0; b <= begun && b < most && b < SKINS; b++) {
                if (in.loads[b] + in.sizes[i] <= in.room) {
                    in.loads[b] += in.sizes[i];
                    in.row[i] = b;
                    if (place(in, i + 1, Math.max(begun, b + 1), most)) {
                        return true;
                    }
                    in.loads[b] -= in.sizes[i];
                }
            }
            return false;
        }

        int boxOf(int i) {
            return i >= 0 && i < SKINS ? row[i] : NONE;
        }
    }

    /** WITNESSES that change ONIONS: of like sums the row that is tried first is the least. */
    private static final class Exchange {
        private final int[] members = new int[SWAPPERS];
        private final int[] honesties = new int[SWAPPERS];
        private final int[] onions = new int[SWAPPERS];
        private final int[] row = new int[SWAPPERS];
        private final int[] best = new int[SWAPPERS];
        private int size;
        private int most;

        /** False if they are not 2 to 5 told ones. */
        boolean gather(int bits, Archive archive) {
            size = 0;
            if ((bits & ~archive.toldOnes()) != 0 || Integer.bitCount(bits) < 2 || Integer.bitCount(bits) > SWAPPERS) {
                return false;
            }
            for (int w = 0; w < WITNESSES; w++) {
                Witness one = archive.told(w);
                if (one != null && (bits >> w & 1) == 1 && size < SWAPPERS) {
                    members[size] = w;
                    honesties[size] = one.honesty();
                    onions[size] = one.first(LAYERS);
                    size++;
                }
            }
            return true;
        }

        void settle() {
            most = -1;
            give(this, 0, 0, 0);
        }

        /** Calls itself once a WITNESS, five deep at most. */
        private static void give(Exchange in, int i, int taken, int sum) {
            if (i < 0 || i >= in.size || i >= SWAPPERS) {
                in.note(sum);
                return;
            }
            for (int j = 0; j < in.size && j < SWAPPERS; j++) {
                if ((taken >> j & 1) == 0) {
                    in.row[i] = j;
                    give(in, i + 1, taken | 1 << j, sum + in.honesties[i] * in.onions[j]);
                }
            }
        }

        private void note(int sum) {
            if (sum > most) {
                most = sum;
                for (int i = 0; i < SWAPPERS; i++) {
                    best[i] = row[i];
                }
            }
        }

        int most() {
            return most;
        }

        int whoseFor(int w) {
            for (int i = 0; i < size && i < SWAPPERS; i++) {
                if (members[i] == w && best[i] >= 0 && best[i] < SWAPPERS) {
                    return members[best[i]];
                }
            }
            return NONE;
        }
    }
}
