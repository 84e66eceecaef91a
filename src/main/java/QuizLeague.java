import java.util.Arrays;
import java.util.NoSuchElementException;

/** A quiz league's desk. The capitals in the comments are the terms of the document. */
public final class QuizLeague {
    public static final int NONE = -1;

    private static final int REFUSED = -300;
    private static final int MOST_QUESTIONS = 60;
    private static final int MOST_IN_PACK = 48;
    private static final int MOST_LOOKS = 100000;
    private static final int THEMES = 8;
    private static final int TEAMS = 12;

    private static final int CANT_COME = 1;
    private static final int WRONG_NUMBER = 2;
    private static final int TOO_MANY = 3;

    private final Tape tape;
    private final FormReader formReader;
    private final Matcher matcher;
    private final Question[] questions;
    private int questionCount;
    private Law rules;
    // A LAW is read here first, so that a faulty text leaves the one in force alone.
    private Law draft;
    private int latestFault;
    private final Packer packer;
    private final Match match;
    private final League league;

    public QuizLeague() {
        tape = new Tape();
        formReader = new FormReader();
        matcher = new Matcher();
        questions = new Question[MOST_QUESTIONS];
        questionCount = 0;
        rules = new Law();
        draft = new Law();
        latestFault = 0;
        packer = new Packer();
        match = new Match(rules);
        league = new League();
    }

    public int feed(int a, int b, int c, int d, int e) {
        if (!tape.hasRoomFor(20)) {
            return NONE;
        }
        tape.addNumber(a);
        tape.addNumber(b);
        tape.addNumber(c);
        tape.addNumber(d);
        tape.addNumber(e);
        return tape.size;
    }

    public boolean end(int n) {
        return tape.cutTo(n);
    }

    public int question(int theme) {
        if (questionCount >= MOST_QUESTIONS || theme < 0 || theme >= THEMES) {
            tape.wipe();
            return REFUSED;
        }
        formReader.readFrom(tape);
        tape.wipe();
        latestFault = formReader.fault;
        if (latestFault != 0) {
            return -1 - formReader.place;
        }
        questions[questionCount] = new Question(theme, formReader.copyOfForm());
        questionCount++;
        return questionCount - 1;
    }

    public int takes(int q) {
        boolean isAnswer = matcher.readFrom(tape);
        tape.wipe();
        Question asked = questionAt(q);
        if (asked == null || !isAnswer) {
            return NONE;
        }
        return matcher.accepts(asked.form) ? 1 : 0;
    }

    public boolean strike(int q, boolean on) {
        Question struck = questionAt(q);
        if (struck == null || match.isOn || struck.isStruck == on) {
            return false;
        }
        struck.isStruck = on;
        return true;
    }

    public int asked(int q, int what) throws NoSuchElementException {
        Question told = questionAt(q);
        if (told == null || what < 0 || what > 5) {
            throw new NoSuchElementException("no such question, or nothing that is told of it");
        }
        return told.tell(what);
    }

    public boolean seen(int team, int q) {
        Question told = questionAt(q);
        return told != null && isTeam(team) && told.isSeenBy(team);
    }

    public int law() {
        if (match.isOn) {
            tape.wipe();
            return REFUSED;
        }
        draft.readFrom(tape);
        tape.wipe();
        latestFault = draft.fault;
        if (latestFault != 0) {
            return -1 - draft.place;
        }
        Law old = rules;
        rules = draft;
        draft = old;
        return rules.wanted;
    }

    public int fault() {
        return latestFault;
    }

    public int pack(int a, int b, int most, int low, int high, int looks)
            throws IllegalArgumentException, IllegalStateException {
        if (!isTeam(a) || !isTeam(b) || a == b) {
            throw new IllegalArgumentException("no such teams, or both the same");
        }
        if (most < 1 || most > MOST_IN_PACK || low > high || looks < 1 || looks > MOST_LOOKS) {
            throw new IllegalArgumentException("no such bounds of a pack");
        }
        if (rules.wanted == 0 || match.isOn) {
            throw new IllegalStateException("no law, or a match is on");
        }
        packer.gather(questions, questionCount, a, b);
        packer.setBounds(most, low, high);
        return packer.search(rules.wanted, looks);
    }

    public int packed(int k) {
        return packer.numberAt(k);
    }

    public boolean begin() {
        if (match.isOn || packer.size == 0 || packer.size != rules.wanted || isPackSpoilt()) {
            return false;
        }
        match.start(rules);
        return true;
    }

    public int answer(int side) {
        boolean isAnswer = matcher.readFrom(tape);
        tape.wipe();
        if (!match.mayCome(Match.ANSWER, side)) {
            return NONE;
        }
        Question asked = questionAt(packer.numberAt(match.atHand));
        boolean isRight = isAnswer && asked != null && matcher.accepts(asked.form);
        match.add(Match.ANSWER, side, isRight);
        return isRight ? 1 : 0;
    }

    public boolean nothing(int side) {
        if (!match.mayCome(Match.NOTHING, side)) {
            return false;
        }
        match.add(Match.NOTHING, side, false);
        return true;
    }

    public boolean dead() {
        if (!match.mayCome(Match.DEAD, NONE)) {
            return false;
        }
        match.add(Match.DEAD, NONE, false);
        return true;
    }

    public boolean appeal(int k, boolean right) {
        return match.overrule(k, right);
    }

    public boolean undo() {
        return match.takeBack();
    }

    public int now(int what) {
        return match.isOn ? match.tell(what) : NONE;
    }

    public int event(int k, int what) throws NoSuchElementException {
        Event told = match.eventAt(k);
        if (told == null || what < 0 || what > 5) {
            throw new NoSuchElementException("no such event, or nothing that is told of it");
        }
        return told.tell(what);
    }

    public boolean finish() {
        if (!match.isOn || !match.isOver()) {
            return false;
        }
        league.addMatch(packer.first, packer.second, match.pointsOf(0), match.pointsOf(1));
        for (int k = 0; k < packer.size; k++) {
            Question played = questionAt(packer.numberAt(k));
            if (played != null) {
                played.addPlay(match.isKnown(k), packer.first, packer.second);
            }
        }
        match.drop();
        return true;
    }

    public boolean call() {
        boolean wasOn = match.isOn;
        match.drop();
        return wasOn;
    }

    public int table(int k, int what) {
        int team = league.teamAt(k);
        return isTeam(team) ? league.tell(team, what) : NONE;
    }

    public int count(int what) {
        switch (what) {
            case 0: return questionCount;
            case 1: return rules.wanted;
            case 2: return rules.rounds;
            case 3: return packer.size;
            case 4: return packer.looks;
            case 5: return league.ended;
            case 6: return tape.size;
            default: return NONE;
        }
    }

    private Question questionAt(int q) {
        return q >= 0 && q < questionCount && q < questions.length ? questions[q] : null;
    }

    private boolean isPackSpoilt() {
        for (int k = 0; k < packer.size; k++) {
            Question packed = questionAt(packer.numberAt(k));
            if (packed == null || !packed.isFreeFor(packer.first, packer.second)) {
                return true;
            }
        }
        return false;
    }

    private static boolean isTeam(int team) {
        return team >= 0 && team < TEAMS;
    }

    /** The bytes that were fed, and the TOKENS in them, one after the other. */
    private static final class Tape {
        static final int END = 0;
        static final int WORD = 1;
        static final int NUMBER = 2;
        static final int NO_TOKEN = 3;
        static final int MOST_READ = 200;

        private static final int MOST_BYTES = 260;
        private static final int LONGEST_WORD = 12;
        private static final int LONGEST_NUMBER = 6;

        private final short[] bytes;
        private int size;
        // The latest TOKEN: one of the kinds above or its own SIGN (the SIGN .. is '.').
        private int kind;
        private int place;
        private long value;
        private int next;

        Tape() {
            bytes = new short[MOST_BYTES];
            size = 0;
        }

        boolean hasRoomFor(int more) {
            return size + more <= MOST_BYTES;
        }

        void addNumber(int number) {
            for (int shift = 24; shift >= 0 && size < MOST_BYTES; shift -= 8) {
                bytes[size] = (short) (number >>> shift & 255);
                size++;
            }
        }

        boolean cutTo(int n) {
            if (n < 0 || n > size) {
                return false;
            }
            size = n;
            return true;
        }

        void wipe() {
            size = 0;
        }

        void rewind() {
            kind = NO_TOKEN;
            place = 0;
            value = 0;
            next = 0;
        }

        void readNext(String signs) {
            skipBlanks();
            value = 0;
            if (next >= size || next >= MOST_READ) {
                kind = size > MOST_READ ? NO_TOKEN : END;
                place = size > MOST_READ ? MOST_READ : size;
                return;
            }
            place = next;
            if (isLetter(byteAt(place)) || isDigit(byteAt(place))) {
                readRun();
            } else {
                readSign(signs);
            }
        }

        boolean isWord(String word) {
            if (kind != WORD || next - place != word.length()) {
                return false;
            }
            for (int i = 0; i < word.length(); i++) {
                if (byteAt(place + i) != word.charAt(i)) {
                    return false;
                }
            }
            return true;
        }

        private void skipBlanks() {
            while (next < size && byteAt(next) == ' ') {
                next++;
            }
        }

        private void readRun() {
            int letters = 0;
            int digits = 0;
            long word = 0;
            int number = 0;
            for (int p = place; p < size; p++) {
                int sign = byteAt(p);
                if (isLetter(sign)) {
                    letters++;
                    word = word * 27 + (sign - 'a' + 1);
                } else if (isDigit(sign)) {
                    digits++;
                    number = number * 10 + (sign - '0');
                } else {
                    break;
                }
            }
            next = place + letters + digits;
            setRun(letters, digits, word, number);
        }

        // WORDS have values below 0, so that one comparison tells any two TOKENS apart.
        private void setRun(int letters, int digits, long word, int number) {
            if (digits == 0 && letters <= LONGEST_WORD) {
                kind = WORD;
                value = -word;
            } else if (letters == 0 && digits <= LONGEST_NUMBER) {
                kind = NUMBER;
                value = number;
            } else {
                kind = NO_TOKEN;
            }
        }

        private void readSign(String signs) {
            int sign = byteAt(place);
            boolean isHalf = sign == '.' && byteAt(place + 1) != '.';
            boolean isSign = !isHalf && signs.indexOf((char) sign) >= 0;
            kind = isSign ? sign : NO_TOKEN;
            next = place + (sign == '.' && !isHalf ? 2 : 1);
        }

        private int byteAt(int p) {
            return p >= 0 && p < size && p < bytes.length ? bytes[p] : NONE;
        }

        private static boolean isLetter(int sign) {
            return sign >= 'a' && sign <= 'z';
        }

        private static boolean isDigit(int sign) {
            return sign >= '0' && sign <= '9';
        }
    }

    /** A FORM without FAULTS: its SIGNS, and for each WORD, NUMBER and range the values from low to high. */
    private static final class Form {
        private final byte[] kinds;
        private final long[] lows;
        private final long[] highs;

        Form(byte[] kinds, long[] lows, long[] highs) {
            this.kinds = kinds;
            this.lows = lows;
            this.highs = highs;
        }

        int size() {
            return Math.min(kinds.length, Math.min(lows.length, highs.length));
        }
    }

    /** Reads the tape as a FORM and finds its first FAULT. */
    private static final class FormReader {
        private static final String SIGNS = "|[](){},.";
        private static final int MOST_OPEN = 6;
        private static final int MOST_IN_SET = 5;

        private static final int WANTS_PART = 0;
        private static final int BEHIND_PART = 1;
        private static final int BEHIND_NUMBER = 2;
        private static final int BEHIND_DOTS = 3;

        private final byte[] kinds;
        private final long[] lows;
        private final long[] highs;
        private int items;
        private final int[] closers;
        private final int[] formsIn;
        private int open;
        private int state;
        private int fault;
        private int place;

        FormReader() {
            kinds = new byte[Tape.MOST_READ];
            lows = new long[Tape.MOST_READ];
            highs = new long[Tape.MOST_READ];
            closers = new int[MOST_OPEN];
            formsIn = new int[MOST_OPEN];
        }

        void readFrom(Tape tape) {
            items = 0;
            open = 0;
            state = WANTS_PART;
            fault = 0;
            place = 0;
            tape.rewind();
            // A TOKEN has a byte at least, and the end comes behind the last.
            for (int t = 0; t <= Tape.MOST_READ; t++) {
                tape.readNext(SIGNS);
                fault = faultOf(tape.kind, tape.value);
                if (fault != 0) {
                    place = tape.place;
                    return;
                }
                if (tape.kind == Tape.END) {
                    return;
                }
            }
        }

        Form copyOfForm() {
            return new Form(Arrays.copyOf(kinds, items), Arrays.copyOf(lows, items), Arrays.copyOf(highs, items));
        }

        private int faultOf(int kind, long value) {
            if (state == BEHIND_DOTS) {
                return closeRange(kind, value);
            }
            switch (kind) {
                case Tape.WORD:
                    addItem(kind, value);
                    state = BEHIND_PART;
                    return 0;
                case Tape.NUMBER:
                    addItem(kind, value);
                    state = BEHIND_NUMBER;
                    return 0;
                case '[':
                    return openBracket(kind, ']');
                case '(':
                    return openBracket(kind, ')');
                case '{':
                    return openBracket(kind, '}');
                default:
                    return state == WANTS_PART ? CANT_COME : faultBehindPart(kind);
            }
        }

        private int faultBehindPart(int kind) {
            switch (kind) {
                case Tape.END:
                    return open == 0 ? 0 : CANT_COME;
                case '.':
                    if (state != BEHIND_NUMBER) {
                        return CANT_COME;
                    }
                    state = BEHIND_DOTS;
                    return 0;
                case '|':
                    addItem(kind, 0);
                    state = WANTS_PART;
                    return 0;
                case ',':
                    return nextOfSet(kind);
                case ']':
                case ')':
                case '}':
                    return closeBracket(kind);
                default:
                    return CANT_COME;
            }
        }

        private int closeRange(int kind, long value) {
            if (kind != Tape.NUMBER || items < 1 || items > highs.length) {
                return CANT_COME;
            }
            if (value < lows[items - 1]) {
                return WRONG_NUMBER;
            }
            highs[items - 1] = value;
            state = BEHIND_PART;
            return 0;
        }

        private int openBracket(int kind, int closer) {
            if (open >= MOST_OPEN) {
                return TOO_MANY;
            }
            closers[open] = closer;
            formsIn[open] = 1;
            open++;
            addItem(kind, 0);
            state = WANTS_PART;
            return 0;
        }

        private int nextOfSet(int kind) {
            if (!isInnermost('}')) {
                return CANT_COME;
            }
            if (formsIn[open - 1] >= MOST_IN_SET) {
                return TOO_MANY;
            }
            formsIn[open - 1]++;
            addItem(kind, 0);
            state = WANTS_PART;
            return 0;
        }

        private int closeBracket(int kind) {
            if (!isInnermost(kind)) {
                return CANT_COME;
            }
            open--;
            addItem(kind, 0);
            state = BEHIND_PART;
            return 0;
        }

        private boolean isInnermost(int closer) {
            return open >= 1 && open <= MOST_OPEN && closers[open - 1] == closer;
        }

        private void addItem(int kind, long value) {
            if (items < kinds.length) {
                kinds[items] = (byte) kind;
                lows[items] = value;
                highs[items] = value;
                items++;
            }
        }
    }

    /**
     * One level of brackets while a FORM is matched. A place of an ANSWER is how many of its TOKENS are behind;
     * for each place to start from, bit e of a set tells that place e can be reached.
     */
    private static final class Frame {
        private static final int PLACES = Matcher.MOST_TOKENS + 1;

        private final int[] rowEnds;
        private final int[] formEnds;
        private final int[] setEnds;
        private int formsKept;
        private final int[] reached;

        Frame() {
            rowEnds = new int[PLACES];
            formEnds = new int[PLACES];
            setEnds = new int[PLACES * FormReader.MOST_IN_SET];
            formsKept = 0;
            reached = new int[1 << FormReader.MOST_IN_SET];
        }

        void restart() {
            formsKept = 0;
            restartForm();
        }

        void stepToken(int placesOfIt) {
            for (int s = 0; s < PLACES; s++) {
                rowEnds[s] = (rowEnds[s] & placesOfIt) << 1;
            }
        }

        void stepPart(int[] partEnds) {
            for (int s = 0; s < PLACES; s++) {
                rowEnds[s] = endsBehind(rowEnds[s], partEnds, 0);
            }
        }

        void closeRow() {
            for (int s = 0; s < PLACES; s++) {
                formEnds[s] |= rowEnds[s];
                rowEnds[s] = 1 << s;
            }
        }

        void keepForm() {
            if (formsKept < FormReader.MOST_IN_SET) {
                System.arraycopy(formEnds, 0, setEnds, formsKept * PLACES, PLACES);
                formsKept++;
            }
            restartForm();
        }

        int endsInAnyOrder(int start) {
            int all = (1 << formsKept) - 1;
            Arrays.fill(reached, 0);
            reached[0] = 1 << start;
            for (int used = 0; used < all; used++) {
                for (int f = 0; f < formsKept && reached[used] != 0; f++) {
                    if ((used >> f & 1) == 0) {
                        reached[used | 1 << f] |= endsBehind(reached[used], setEnds, f * PLACES);
                    }
                }
            }
            return reached[all];
        }

        private void restartForm() {
            for (int s = 0; s < PLACES; s++) {
                formEnds[s] = 0;
                rowEnds[s] = 1 << s;
            }
        }

        private static int endsBehind(int starts, int[] ends, int from) {
            int found = 0;
            for (int s = 0; s < PLACES && starts >> s != 0; s++) {
                int at = from + s;
                if ((starts >> s & 1) == 1 && at >= 0 && at < ends.length) {
                    found |= ends[at];
                }
            }
            return found;
        }
    }

    /** Reads the tape as an ANSWER and tells whether a FORM TAKES it. */
    private static final class Matcher {
        static final int MOST_TOKENS = 20;

        private final long[] tokens;
        private int tokenCount;
        private final Frame[] frames;
        private int depth;
        private final int[] partEnds;

        Matcher() {
            tokens = new long[MOST_TOKENS];
            tokenCount = 0;
            frames = new Frame[FormReader.MOST_OPEN + 1];
            for (int d = 0; d < frames.length; d++) {
                frames[d] = new Frame();
            }
            depth = 0;
            partEnds = new int[Frame.PLACES];
        }

        boolean readFrom(Tape tape) {
            tokenCount = 0;
            tape.rewind();
            for (int t = 0; t <= MOST_TOKENS; t++) {
                tape.readNext("");
                if (tape.kind == Tape.END) {
                    return tokenCount > 0;
                }
                boolean isPart = tape.kind == Tape.WORD || tape.kind == Tape.NUMBER;
                if (!isPart || tokenCount >= MOST_TOKENS) {
                    return false;
                }
                tokens[tokenCount] = tape.value;
                tokenCount++;
            }
            return false;
        }

        // All starts are followed at once, so each PART is gone through once, however brackets stand in one another.
        boolean accepts(Form form) {
            depth = 0;
            frames[0].restart();
            for (int i = 0; i < form.size(); i++) {
                step(form.kinds[i], form.lows[i], form.highs[i]);
            }
            frames[0].closeRow();
            return (frames[0].formEnds[0] >> tokenCount & 1) == 1;
        }

        private void step(int kind, long low, long high) {
            switch (kind) {
                case '[':
                case '(':
                case '{':
                    openFrame();
                    break;
                case '|':
                    frames[depth].closeRow();
                    break;
                case ',':
                    frames[depth].closeRow();
                    frames[depth].keepForm();
                    break;
                case ']':
                case ')':
                case '}':
                    closeFrame(kind);
                    break;
                default:
                    frames[depth].stepToken(placesFrom(low, high));
                    break;
            }
        }

        private void openFrame() {
            if (depth + 1 < frames.length) {
                depth++;
                frames[depth].restart();
            }
        }

        private void closeFrame(int kind) {
            if (depth < 1 || depth >= frames.length) {
                return;
            }
            Frame inner = frames[depth];
            inner.closeRow();
            if (kind == '}') {
                inner.keepForm();
            }
            for (int s = 0; s < partEnds.length; s++) {
                partEnds[s] = endsOf(inner, kind, s);
            }
            depth--;
            frames[depth].stepPart(partEnds);
        }

        private int endsOf(Frame inner, int kind, int start) {
            if (start > tokenCount || start >= inner.formEnds.length) {
                return 0;
            }
            if (kind == '}') {
                return inner.endsInAnyOrder(start);
            }
            return kind == ']' ? inner.formEnds[start] | 1 << start : inner.formEnds[start];
        }

        private int placesFrom(long low, long high) {
            int places = 0;
            for (int t = 0; t < tokenCount; t++) {
                if (low <= tokens[t] && tokens[t] <= high) {
                    places |= 1 << t;
                }
            }
            return places;
        }
    }

    /** A QUESTION with what the LEAGUE knows of it. */
    private static final class Question {
        private static final int HARD_UNASKED = 50;

        private final int theme;
        private final Form form;
        private int timesAsked;
        private int timesKnown;
        private boolean isStruck;
        // Bit t tells that TEAM t has SEEN it.
        private int seenBy;

        Question(int theme, Form form) {
            this.theme = theme;
            this.form = form;
        }

        int hard() {
            return timesAsked > 0 ? timesKnown * 100 / timesAsked : HARD_UNASKED;
        }

        boolean isSeenBy(int team) {
            return (seenBy >> team & 1) == 1;
        }

        boolean isFreeFor(int a, int b) {
            return !isStruck && !isSeenBy(a) && !isSeenBy(b);
        }

        void addPlay(boolean isKnown, int a, int b) {
            timesAsked++;
            if (isKnown) {
                timesKnown++;
            }
            seenBy |= 1 << a | 1 << b;
        }

        int tell(int what) {
            switch (what) {
                case 0: return theme;
                case 1: return timesAsked;
                case 2: return timesKnown;
                case 3: return hard();
                case 4: return isStruck ? 1 : 0;
                case 5: return Integer.bitCount(seenBy);
                default: return NONE;
            }
        }
    }

    /** A LAW, or (with no ROUNDS) none yet; reads the tape as one and finds its first FAULT. */
    private static final class Law {
        private static final String SIGNS = ";";
        private static final int MOST_ROUNDS = 6;
        private static final int MOST_IN_ROUND = 8;
        private static final int MOST_POINTS = 20;

        private int rounds;
        private int wanted;
        private final int[] sizes;
        private final boolean[] buzzes;
        private final int[] rights;
        // NONE where a ROUND has no 'pass': 'pass 0' is another thing.
        private final int[] passes;
        private final int[] wrongs;
        private int fault;
        private int place;

        Law() {
            sizes = new int[MOST_ROUNDS];
            buzzes = new boolean[MOST_ROUNDS];
            rights = new int[MOST_ROUNDS];
            passes = new int[MOST_ROUNDS];
            wrongs = new int[MOST_ROUNDS];
        }

        void readFrom(Tape tape) {
            rounds = 0;
            wanted = 0;
            fault = 0;
            place = 0;
            tape.rewind();
            tape.readNext(SIGNS);
            for (int r = 0; r <= MOST_ROUNDS; r++) {
                if (r > 0 && tape.kind == Tape.END) {
                    return;
                }
                fault = faultOfHead(tape);
                if (fault == 0) {
                    fault = faultOfPoints(tape, rounds);
                }
                if (fault != 0) {
                    place = tape.place;
                    return;
                }
            }
        }

        int roundOf(int k) {
            int ahead = 0;
            for (int r = 0; r < rounds && r < MOST_ROUNDS; r++) {
                ahead += sizes[r];
                if (k < ahead) {
                    return r;
                }
            }
            return 0;
        }

        // Each of these leaves the tape at the TOKEN that is at fault, if there is one, else behind what it read.
        private int faultOfHead(Tape tape) {
            if (!tape.isWord("round")) {
                return CANT_COME;
            }
            if (rounds >= MOST_ROUNDS) {
                return TOO_MANY;
            }
            tape.readNext(SIGNS);
            int found = faultOfNumber(tape, 1, MOST_IN_ROUND);
            if (found != 0) {
                return found;
            }
            sizes[rounds] = (int) tape.value;
            tape.readNext(SIGNS);
            buzzes[rounds] = tape.isWord("buzz");
            if (!buzzes[rounds] && !tape.isWord("turns")) {
                return CANT_COME;
            }
            tape.readNext(SIGNS);
            return 0;
        }

        private int faultOfPoints(Tape tape, int r) {
            if (r < 0 || r >= MOST_ROUNDS || !tape.isWord("right")) {
                return CANT_COME;
            }
            passes[r] = NONE;
            wrongs[r] = 0;
            int found = readPoints(tape, rights, r);
            if (found == 0 && !buzzes[r] && tape.isWord("pass")) {
                found = readPoints(tape, passes, r);
            }
            if (found == 0 && tape.isWord("wrong")) {
                found = readPoints(tape, wrongs, r);
            }
            if (found != 0) {
                return found;
            }
            if (tape.kind != ';') {
                return CANT_COME;
            }
            wanted += sizes[r];
            rounds++;
            tape.readNext(SIGNS);
            return 0;
        }

        private static int readPoints(Tape tape, int[] points, int r) {
            tape.readNext(SIGNS);
            int found = faultOfNumber(tape, 0, MOST_POINTS);
            if (found == 0 && r >= 0 && r < points.length) {
                points[r] = (int) tape.value;
                tape.readNext(SIGNS);
            }
            return found;
        }

        private static int faultOfNumber(Tape tape, int low, int high) {
            if (tape.kind != Tape.NUMBER) {
                return CANT_COME;
            }
            return tape.value < low || tape.value > high ? WRONG_NUMBER : 0;
        }
    }

    /** Looks for a PACK, and holds the one that was found. */
    private static final class Packer {
        private static final int FOUND = 0;
        private static final int ABSENT = 1;
        private static final int SPENT = 2;

        private int first;
        private int second;
        private int size;
        private int looks;
        // The QUESTIONS that may come at all, by rising numbers.
        private final int[] numbers;
        private final int[] themes;
        private final int[] hards;
        private int free;
        // Which of them are in, as places in the rows above.
        private final int[] picks;
        private int picked;
        private final int[] ofTheme;
        private int hardOfPicks;
        private int most;
        private int low;
        private int high;

        Packer() {
            numbers = new int[MOST_QUESTIONS];
            themes = new int[MOST_QUESTIONS];
            hards = new int[MOST_QUESTIONS];
            picks = new int[MOST_IN_PACK];
            ofTheme = new int[THEMES];
        }

        void gather(Question[] questions, int questionCount, int a, int b) {
            first = a;
            second = b;
            size = 0;
            free = 0;
            for (int q = 0; q < questionCount && q < questions.length && free < numbers.length; q++) {
                Question asked = questions[q];
                if (asked != null && asked.isFreeFor(a, b)) {
                    numbers[free] = q;
                    themes[free] = asked.theme;
                    hards[free] = asked.hard();
                    free++;
                }
            }
        }

        void setBounds(int mostOfTheme, int lowest, int highest) {
            most = mostOfTheme;
            low = lowest;
            high = highest;
        }

        int search(int wanted, int allowed) {
            picked = 0;
            hardOfPicks = 0;
            looks = 0;
            Arrays.fill(ofTheme, 0);
            int from = 0;
            // Each step puts one in, which is a LOOK, or takes one out that was put in.
            for (int step = 0; step <= 2 * allowed; step++) {
                boolean isFull = picked >= wanted || picked >= picks.length;
                if (isFull && low <= hardOfPicks && hardOfPicks <= high) {
                    size = picked;
                    return FOUND;
                }
                int next = isFull ? free : nextWithRoom(from);
                if (next < free) {
                    if (looks >= allowed) {
                        return SPENT;
                    }
                    putIn(next);
                    from = next + 1;
                } else if (picked > 0) {
                    from = takeOut() + 1;
                } else {
                    return ABSENT;
                }
            }
            return SPENT;
        }

        int numberAt(int k) {
            if (k < 0 || k >= size || k >= picks.length) {
                return NONE;
            }
            int pick = picks[k];
            return pick >= 0 && pick < numbers.length ? numbers[pick] : NONE;
        }

        private int nextWithRoom(int from) {
            for (int i = from; i >= 0 && i < free && i < themes.length; i++) {
                int theme = themes[i];
                if (theme >= 0 && theme < THEMES && ofTheme[theme] < most) {
                    return i;
                }
            }
            return free;
        }

        private void putIn(int i) {
            if (picked < picks.length) {
                looks++;
                picks[picked] = i;
                picked++;
                weigh(i, 1);
            }
        }

        private int takeOut() {
            if (picked < 1 || picked > picks.length) {
                return free;
            }
            picked--;
            weigh(picks[picked], -1);
            return picks[picked];
        }

        private void weigh(int i, int times) {
            if (i >= 0 && i < themes.length && themes[i] >= 0 && themes[i] < THEMES) {
                ofTheme[themes[i]] += times;
                hardOfPicks += times * hards[i];
            }
        }
    }

    /** One EVENT, with what the LAW made of it when it was last gone through. */
    private static final class Event {
        private int question;
        private int kind;
        private int side;
        private boolean isRight;
        private boolean isVoid;
        private int points;

        int tell(int what) {
            switch (what) {
                case 0: return question;
                case 1: return kind;
                case 2: return side;
                case 3: return isRight ? 1 : 0;
                case 4: return isVoid ? 1 : 0;
                case 5: return points;
                default: return NONE;
            }
        }
    }

    /** The MATCH that is on, if one is. */
    private static final class Match {
        static final int ANSWER = 0;
        static final int NOTHING = 1;
        static final int DEAD = 2;

        private static final int MOST_EVENTS = 120;
        private static final int EITHER = 2;
        private static final int OVER = 3;

        private boolean isOn;
        private Law rules;
        private final Event[] events;
        private int eventCount;
        private int voids;
        private int atHand;
        private int whose;
        // Whether one SIDE had the QUESTION at hand already, and it is the other's.
        private boolean isSecond;
        private final int[] points;

        Match(Law rules) {
            isOn = false;
            this.rules = rules;
            events = new Event[MOST_EVENTS];
            for (int k = 0; k < MOST_EVENTS; k++) {
                events[k] = new Event();
            }
            points = new int[2];
        }

        void start(Law law) {
            rules = law;
            isOn = true;
            eventCount = 0;
            replay();
        }

        void drop() {
            isOn = false;
            eventCount = 0;
        }

        boolean isOver() {
            return atHand >= rules.wanted;
        }

        boolean mayCome(int kind, int side) {
            if (!isOn || isOver() || eventCount >= MOST_EVENTS) {
                return false;
            }
            if (kind == DEAD) {
                return isBuzz();
            }
            boolean isOfRound = kind == ANSWER || !isBuzz();
            return isOfRound && (side == 0 || side == 1) && isFor(side);
        }

        void add(int kind, int side, boolean isRight) {
            if (eventCount >= MOST_EVENTS) {
                return;
            }
            Event added = events[eventCount];
            added.question = atHand;
            added.kind = kind;
            added.side = side;
            added.isRight = isRight;
            eventCount++;
            apply(added);
        }

        boolean overrule(int k, boolean right) {
            Event judged = eventAt(k);
            if (judged == null || judged.kind != ANSWER || judged.isRight == right) {
                return false;
            }
            judged.isRight = right;
            replay();
            return true;
        }

        boolean takeBack() {
            if (eventCount < 1) {
                return false;
            }
            eventCount--;
            replay();
            return true;
        }

        Event eventAt(int k) {
            return k >= 0 && k < eventCount && k < MOST_EVENTS ? events[k] : null;
        }

        int pointsOf(int side) {
            return side == 0 || side == 1 ? points[side] : 0;
        }

        boolean isKnown(int k) {
            for (int e = 0; e < eventCount && e < MOST_EVENTS; e++) {
                if (events[e].question == k && events[e].isRight && !events[e].isVoid) {
                    return true;
                }
            }
            return false;
        }

        int tell(int what) {
            switch (what) {
                case 0: return atHand;
                case 1: return whose;
                case 2: return pointsOf(0);
                case 3: return pointsOf(1);
                case 4: return eventCount;
                case 5: return voids;
                default: return NONE;
            }
        }

        private void replay() {
            voids = 0;
            points[0] = 0;
            points[1] = 0;
            goTo(0);
            for (int e = 0; e < eventCount && e < MOST_EVENTS; e++) {
                apply(events[e]);
            }
        }

        private void goTo(int k) {
            atHand = k;
            isSecond = false;
            if (isOver()) {
                whose = OVER;
            } else {
                whose = isBuzz() ? EITHER : k % 2;
            }
        }

        private void apply(Event e) {
            if (e.question > atHand) {
                goTo(e.question);
            }
            e.points = 0;
            e.isVoid = e.question < atHand || isOver() || (e.kind != DEAD && !isFor(e.side));
            if (e.isVoid) {
                voids++;
                return;
            }
            e.points = worthOf(e);
            if (e.side == 0 || e.side == 1) {
                points[e.side] += e.points;
            }
            if (goesToOther(e)) {
                isSecond = true;
                whose = 1 - e.side;
            } else {
                goTo(atHand + 1);
            }
        }

        private int worthOf(Event e) {
            int round = rules.roundOf(atHand);
            if (e.kind != ANSWER || round < 0 || round >= Law.MOST_ROUNDS) {
                return 0;
            }
            boolean isPassed = isSecond && !isBuzz();
            if (e.isRight) {
                return isPassed ? rules.passes[round] : rules.rights[round];
            }
            return isPassed ? 0 : -rules.wrongs[round];
        }

        private boolean goesToOther(Event e) {
            boolean isOpen = !isSecond && !e.isRight && e.kind != DEAD;
            return isOpen && (isBuzz() || hasPass());
        }

        private boolean isFor(int side) {
            return whose == EITHER || whose == side;
        }

        private boolean isBuzz() {
            int round = rules.roundOf(atHand);
            return round >= 0 && round < Law.MOST_ROUNDS && rules.buzzes[round];
        }

        private boolean hasPass() {
            int round = rules.roundOf(atHand);
            return round >= 0 && round < Law.MOST_ROUNDS && rules.passes[round] != NONE;
        }
    }

    /** What the TEAMS have from the MATCHES that are ENDED. */
    private static final class League {
        private final int[] given;
        private final int[] matches;
        private final int[] had;
        private final int[] against;
        private int ended;

        League() {
            given = new int[TEAMS];
            matches = new int[TEAMS];
            had = new int[TEAMS];
            against = new int[TEAMS];
            ended = 0;
        }

        void addMatch(int a, int b, int pointsA, int pointsB) {
            ended++;
            addSide(a, pointsA, pointsB);
            addSide(b, pointsB, pointsA);
        }

        int teamAt(int place) {
            for (int t = 0; t < TEAMS; t++) {
                if (placeOf(t) == place) {
                    return t;
                }
            }
            return NONE;
        }

        int tell(int team, int what) {
            if (!isTeam(team)) {
                return NONE;
            }
            switch (what) {
                case 0: return team;
                case 1: return given[team];
                case 2: return matches[team];
                case 3: return had[team];
                case 4: return against[team];
                default: return NONE;
            }
        }

        private void addSide(int team, int own, int others) {
            if (isTeam(team)) {
                int more = own > others ? 2 : 0;
                given[team] += own == others ? 1 : more;
                matches[team]++;
                had[team] += own;
                against[team] += others;
            }
        }

        private int placeOf(int team) {
            int ahead = 0;
            for (int t = 0; t < TEAMS; t++) {
                if (t != team && isAhead(t, team)) {
                    ahead++;
                }
            }
            return ahead;
        }

        private boolean isAhead(int t, int u) {
            if (!isTeam(t) || !isTeam(u)) {
                return false;
            }
            if (given[t] != given[u]) {
                return given[t] > given[u];
            }
            int lead = had[t] - against[t];
            int leadOfOther = had[u] - against[u];
            if (lead != leadOfOther) {
                return lead > leadOfOther;
            }
            return had[t] != had[u] ? had[t] > had[u] : t < u;
        }
    }
}
