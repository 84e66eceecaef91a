import java.util.ArrayList;
import java.util.HashSet;
import java.util.List;
import java.util.Set;
import java.util.TreeSet;
import java.util.regex.Matcher;
import java.util.regex.Pattern;

/** The document once more, in the plainest Java there is and by other ways than the program's. */
final class Model {
    static final int NONE = -1;

    /** Where and of what kind the first FAULT is. */
    static final class Fault extends Exception {
        private static final long serialVersionUID = 1L;
        final int place;
        final int kind;

        Fault(int place, int kind) {
            this.place = place;
            this.kind = kind;
        }
    }

    record Token(String text, int place) {
        boolean isWord() {
            return text.matches("[a-z]{1,12}");
        }

        boolean isNumber() {
            return text.matches("[0-9]{1,6}");
        }

        int number() {
            return Integer.parseInt(text);
        }
    }

    /** The TOKENS of a text, as they are asked for. */
    static final class Reader {
        private static final Pattern PIECE = Pattern.compile(" *([a-z0-9]+|\\.\\.|.)?", Pattern.DOTALL);
        private final String text;
        private final String signs;
        private int at = 0;
        private Token ahead = null;

        Reader(String text, String signs) {
            this.text = text;
            this.signs = signs;
        }

        /** The next TOKEN; its text is empty at the end. */
        Token peek() throws Fault {
            if (ahead == null) {
                Matcher m = PIECE.matcher(text);
                m.region(at, text.length());
                m.lookingAt();
                String piece = m.group(1);
                int place = piece == null ? text.length() : m.start(1);
                if (text.length() > 200 && place >= 200) {
                    throw new Fault(200, 1);
                }
                ahead = new Token(piece == null ? "" : piece, place);
                boolean isSign = piece != null && (piece.equals("..") ? signs.contains("..")
                    : !piece.equals(".") && piece.length() == 1 && signs.contains(piece));
                if (piece != null && !isSign && !ahead.isWord() && !ahead.isNumber()) {
                    throw new Fault(place, 1);
                }
                at = m.end();
            }
            return ahead;
        }

        Token take() throws Fault {
            Token token = peek();
            ahead = null;
            return token;
        }

        boolean sees(String text) throws Fault {
            return peek().text.equals(text);
        }

        void want(String text) throws Fault {
            if (!sees(text)) {
                throw new Fault(peek().place, 1);
            }
            take();
        }

        Token wantNumber() throws Fault {
            if (!peek().isNumber()) {
                throw new Fault(peek().place, 1);
            }
            return take();
        }
    }

    /** A part of a FORM; tells at which places an ANSWER can be left, if it is entered at one. */
    interface Part {
        Set<Integer> ends(List<Token> answer, int start);
    }

    static Part form(Reader r, int open) throws Fault {
        List<Part> rows = new ArrayList<>();
        rows.add(row(r, open));
        while (r.sees("|")) {
            r.take();
            rows.add(row(r, open));
        }
        return (answer, start) -> {
            Set<Integer> all = new TreeSet<>();
            for (Part row : rows) {
                all.addAll(row.ends(answer, start));
            }
            return all;
        };
    }

    private static boolean beginsPart(Reader r) throws Fault {
        return r.peek().isWord() || r.peek().isNumber() || r.sees("[") || r.sees("(") || r.sees("{");
    }

    private static Part row(Reader r, int open) throws Fault {
        List<Part> parts = new ArrayList<>();
        do {
            parts.add(part(r, open));
        } while (beginsPart(r));
        return (answer, start) -> behindAll(parts, answer, start);
    }

    private static Set<Integer> behindAll(List<Part> parts, List<Token> answer, int start) {
        Set<Integer> places = Set.of(start);
        for (Part part : parts) {
            Set<Integer> next = new TreeSet<>();
            for (int place : places) {
                next.addAll(part.ends(answer, place));
            }
            places = next;
        }
        return places;
    }

    private static Part part(Reader r, int open) throws Fault {
        if (!beginsPart(r)) {
            throw new Fault(r.peek().place, 1);
        }
        Token token = r.take();
        if (token.isWord()) {
            return (answer, start) -> start < answer.size() && answer.get(start).text.equals(token.text)
                ? Set.of(start + 1) : Set.of();
        }
        if (token.isNumber()) {
            return range(r, token.number());
        }
        if (open == 6) {
            throw new Fault(token.place, 3);
        }
        Part inner = form(r, open + 1);
        if (token.text.equals("(")) {
            r.want(")");
            return inner;
        }
        if (token.text.equals("[")) {
            r.want("]");
            return (answer, start) -> {
                Set<Integer> all = new TreeSet<>(inner.ends(answer, start));
                all.add(start);
                return all;
            };
        }
        return set(r, open, inner);
    }

    private static Part range(Reader r, int low) throws Fault {
        int high = low;
        if (r.sees("..")) {
            r.take();
            Token last = r.wantNumber();
            high = last.number();
            if (high < low) {
                throw new Fault(last.place, 2);
            }
        }
        int top = high;
        return (answer, start) -> start < answer.size() && answer.get(start).isNumber()
            && answer.get(start).number() >= low && answer.get(start).number() <= top ? Set.of(start + 1) : Set.of();
    }

    private static Part set(Reader r, int open, Part first) throws Fault {
        List<Part> forms = new ArrayList<>();
        forms.add(first);
        while (r.sees(",")) {
            Token comma = r.take();
            if (forms.size() == 5) {
                throw new Fault(comma.place, 3);
            }
            forms.add(form(r, open + 1));
        }
        r.want("}");
        return (answer, start) -> {
            Set<Integer> all = new TreeSet<>();
            permute(forms, new ArrayList<>(), answer, start, all);
            return all;
        };
    }

    private static void permute(List<Part> left, List<Part> chosen, List<Token> answer, int start, Set<Integer> all) {
        if (left.isEmpty()) {
            all.addAll(behindAll(chosen, answer, start));
        }
        for (int i = 0; i < left.size(); i++) {
            List<Part> fewer = new ArrayList<>(left);
            List<Part> more = new ArrayList<>(chosen);
            more.add(fewer.remove(i));
            permute(fewer, more, answer, start, all);
        }
    }

    /** The TOKENS of an ANSWER; null if it is none. */
    static List<Token> answerOf(String text) {
        List<Token> tokens = new ArrayList<>();
        if (text.length() > 200 || !text.matches(" *([a-z0-9]+ *)+")) {
            return null;
        }
        for (String piece : text.trim().split(" +")) {
            Token token = new Token(piece, 0);
            if (!token.isWord() && !token.isNumber()) {
                return null;
            }
            tokens.add(token);
        }
        return tokens.size() > 20 ? null : tokens;
    }

    /** A ROUND; pass is null without one. */
    record Round(int size, boolean buzz, int right, Integer pass, int wrong) {
    }

    static final class Question {
        int theme;
        Part form;
        int asked;
        int known;
        boolean struck;
        Set<Integer> seen = new HashSet<>();

        int hard() {
            return asked == 0 ? 50 : known * 100 / asked;
        }
    }

    static final class Event {
        int question;
        int kind;
        int side;
        boolean right;
        boolean isVoid;
        int points;
    }

    String tape = "";
    final List<Question> questions = new ArrayList<>();
    List<Round> rounds = new ArrayList<>();
    int fault = 0;
    int[] packTeams = null;
    List<Integer> pack = new ArrayList<>();
    int looks = 0;
    boolean on = false;
    final List<Event> events = new ArrayList<>();
    final int[][] table = new int[12][4];
    int ended = 0;

    private String takeTape() {
        String text = tape;
        tape = "";
        return text;
    }

    int wants() {
        int sum = 0;
        for (Round round : rounds) {
            sum += round.size;
        }
        return sum;
    }

    int feed(int... numbers) {
        if (tape.length() > 240) {
            return NONE;
        }
        for (int number : numbers) {
            for (byte b : java.nio.ByteBuffer.allocate(4).putInt(number).array()) {
                tape += (char) (b & 255);
            }
        }
        return tape.length();
    }

    boolean end(int n) {
        boolean can = n >= 0 && n <= tape.length();
        tape = can ? tape.substring(0, n) : tape;
        return can;
    }

    int question(int theme) {
        String text = takeTape();
        if (questions.size() == 60 || theme < 0 || theme > 7) {
            return -300;
        }
        try {
            Reader r = new Reader(text, "|[](){},..");
            Question q = new Question();
            q.theme = theme;
            q.form = form(r, 0);
            r.want("");
            questions.add(q);
            fault = 0;
            return questions.size() - 1;
        } catch (Fault f) {
            fault = f.kind;
            return -1 - f.place;
        }
    }

    private boolean has(int q) {
        return q >= 0 && q < questions.size();
    }

    int takes(int q) {
        List<Token> answer = answerOf(takeTape());
        if (!has(q) || answer == null) {
            return NONE;
        }
        return questions.get(q).form.ends(answer, 0).contains(answer.size()) ? 1 : 0;
    }

    boolean strike(int q, boolean to) {
        if (!has(q) || on || questions.get(q).struck == to) {
            return false;
        }
        questions.get(q).struck = to;
        return true;
    }

    int asked(int q, int what) {
        if (!has(q) || what < 0 || what > 5) {
            return Desk.THROWS_NO_ELEMENT;
        }
        Question x = questions.get(q);
        return new int[] {x.theme, x.asked, x.known, x.hard(), x.struck ? 1 : 0, x.seen.size()}[what];
    }

    boolean seen(int team, int q) {
        return has(q) && questions.get(q).seen.contains(team);
    }

    private static int inside(Token number, int low, int high) throws Fault {
        if (number.number() < low || number.number() > high) {
            throw new Fault(number.place, 2);
        }
        return number.number();
    }

    int law() {
        String text = takeTape();
        if (on) {
            return -300;
        }
        try {
            Reader r = new Reader(text, ";");
            List<Round> read = new ArrayList<>();
            do {
                if (r.sees("round") && read.size() == 6) {
                    throw new Fault(r.peek().place, 3);
                }
                r.want("round");
                int size = inside(r.wantNumber(), 1, 8);
                boolean buzz = r.sees("buzz");
                r.want(buzz ? "buzz" : "turns");
                r.want("right");
                int right = inside(r.wantNumber(), 0, 20);
                Integer pass = null;
                int wrong = 0;
                if (!buzz && r.sees("pass")) {
                    r.take();
                    pass = inside(r.wantNumber(), 0, 20);
                }
                if (r.sees("wrong")) {
                    r.take();
                    wrong = inside(r.wantNumber(), 0, 20);
                }
                r.want(";");
                read.add(new Round(size, buzz, right, pass, wrong));
            } while (!r.sees(""));
            rounds = read;
            fault = 0;
            return wants();
        } catch (Fault f) {
            fault = f.kind;
            return -1 - f.place;
        }
    }

    private static final class Spent extends Exception {
        private static final long serialVersionUID = 1L;
    }

    int pack(int a, int b, int most, int low, int high, int told) {
        if (a < 0 || a > 11 || b < 0 || b > 11 || a == b || most < 1 || most > 48 || low > high
            || told < 1 || told > 100000) {
            return Desk.THROWS_ARGUMENT;
        }
        if (rounds.isEmpty() || on) {
            return Desk.THROWS_STATE;
        }
        packTeams = new int[] {a, b};
        pack.clear();
        looks = 0;
        try {
            List<Integer> in = new ArrayList<>();
            if (look(0, in, new int[] {most, low, high, told})) {
                pack.addAll(in);
                return 0;
            }
            return 1;
        } catch (Spent s) {
            return 2;
        }
    }

    private boolean look(int q, List<Integer> in, int[] told) throws Spent {
        if (in.size() == wants()) {
            int hards = 0;
            for (int k : in) {
                hards += questions.get(k).hard();
            }
            return hards >= told[1] && hards <= told[2];
        }
        if (q == questions.size()) {
            return false;
        }
        int same = 0;
        for (int k : in) {
            same += questions.get(k).theme == questions.get(q).theme ? 1 : 0;
        }
        if (isFree(q) && same < told[0]) {
            if (looks == told[3]) {
                throw new Spent();
            }
            looks++;
            in.add(q);
            if (look(q + 1, in, told)) {
                return true;
            }
            in.remove(in.size() - 1);
        }
        return look(q + 1, in, told);
    }

    private boolean isFree(int q) {
        Question x = questions.get(q);
        return !x.struck && !x.seen.contains(packTeams[0]) && !x.seen.contains(packTeams[1]);
    }

    int packed(int k) {
        return k >= 0 && k < pack.size() ? pack.get(k) : NONE;
    }

    boolean begin() {
        if (pack.isEmpty() || on || wants() != pack.size()) {
            return false;
        }
        for (int q : pack) {
            if (!isFree(q)) {
                return false;
            }
        }
        on = true;
        events.clear();
        return true;
    }

    private Round roundOf(int k) {
        List<Round> each = new ArrayList<>();
        for (Round round : rounds) {
            for (int i = 0; i < round.size; i++) {
                each.add(round);
            }
        }
        return each.get(k);
    }

    /** Goes through all EVENTS; tells the QUESTION at hand, whose it is, and the points of both. */
    private int[] play() {
        int hand = 0;
        int[] points = new int[2];
        List<Event> ofHand = new ArrayList<>();
        for (Event e : events) {
            e.isVoid = false;
            e.points = 0;
            if (e.question > hand) {
                hand = e.question;
                ofHand.clear();
            }
            int whose = hand < pack.size() ? whose(hand, ofHand) : 3;
            if (e.question < hand || whose == 3 || e.kind != 2 && whose != 2 && whose != e.side) {
                e.isVoid = true;
                continue;
            }
            Round round = roundOf(hand);
            if (e.kind == 0 && e.right) {
                e.points = !round.buzz && ofHand.size() == 1 ? round.pass : round.right;
            } else if (e.kind == 0 && (round.buzz || ofHand.isEmpty())) {
                e.points = -round.wrong;
            }
            if (e.side >= 0) {
                points[e.side] += e.points;
            }
            ofHand.add(e);
            if (whose(hand, ofHand) == 3) {
                hand++;
                ofHand.clear();
            }
        }
        int whose = hand < pack.size() ? whose(hand, ofHand) : 3;
        return new int[] {hand, whose, points[0], points[1]};
    }

    /** Whose QUESTION k of the MATCH is behind these EVENTS of it; 3: it is over. */
    private int whose(int k, List<Event> came) {
        Round round = roundOf(k);
        if (came.isEmpty()) {
            return round.buzz ? 2 : k % 2;
        }
        Event first = came.get(0);
        boolean goesOn = came.size() == 1 && first.kind != 2 && !first.right && (round.buzz || round.pass != null);
        return goesOn ? 1 - first.side : 3;
    }

    private boolean can(int kind, int side) {
        if (!on || events.size() == 120) {
            return false;
        }
        int[] state = play();
        if (state[1] == 3) {
            return false;
        }
        boolean buzz = roundOf(state[0]).buzz;
        if (kind == 2) {
            return buzz;
        }
        return (side == 0 || side == 1) && (state[1] == 2 || state[1] == side) && !(kind == 1 && buzz);
    }

    private void add(int kind, int side, boolean right) {
        Event e = new Event();
        e.question = play()[0];
        e.kind = kind;
        e.side = side;
        e.right = right;
        events.add(e);
    }

    int answer(int side) {
        List<Token> answer = answerOf(takeTape());
        if (!can(0, side)) {
            return NONE;
        }
        Part form = questions.get(pack.get(play()[0])).form;
        boolean right = answer != null && form.ends(answer, 0).contains(answer.size());
        add(0, side, right);
        return right ? 1 : 0;
    }

    boolean nothing(int side) {
        boolean can = can(1, side);
        if (can) {
            add(1, side, false);
        }
        return can;
    }

    boolean dead() {
        boolean can = can(2, NONE);
        if (can) {
            add(2, NONE, false);
        }
        return can;
    }

    boolean appeal(int k, boolean right) {
        if (!on || k < 0 || k >= events.size() || events.get(k).kind != 0 || events.get(k).right == right) {
            return false;
        }
        events.get(k).right = right;
        return true;
    }

    boolean undo() {
        if (!on || events.isEmpty()) {
            return false;
        }
        events.remove(events.size() - 1);
        return true;
    }

    int now(int what) {
        if (!on || what < 0 || what > 5) {
            return NONE;
        }
        int[] state = play();
        if (what == 4) {
            return events.size();
        }
        return what == 5 ? (int) events.stream().filter(e -> e.isVoid).count() : state[what];
    }

    int event(int k, int what) {
        if (!on || k < 0 || k >= events.size() || what < 0 || what > 5) {
            return Desk.THROWS_NO_ELEMENT;
        }
        play();
        Event e = events.get(k);
        return new int[] {e.question, e.kind, e.side, e.right ? 1 : 0, e.isVoid ? 1 : 0, e.points}[what];
    }

    boolean finish() {
        if (!on || play()[1] != 3) {
            return false;
        }
        int[] state = play();
        for (int side = 0; side < 2; side++) {
            int own = state[2 + side];
            int other = state[3 - side];
            int[] line = table[packTeams[side]];
            line[0] += own > other ? 2 : own == other ? 1 : 0;
            line[1]++;
            line[2] += own;
            line[3] += other;
        }
        for (int k = 0; k < pack.size(); k++) {
            Question q = questions.get(pack.get(k));
            int at = k;
            q.asked++;
            q.known += events.stream().anyMatch(e -> e.question == at && e.right && !e.isVoid) ? 1 : 0;
            q.seen.add(packTeams[0]);
            q.seen.add(packTeams[1]);
        }
        ended++;
        on = false;
        return true;
    }

    boolean call() {
        boolean was = on;
        on = false;
        return was;
    }

    int table(int k, int what) {
        if (k < 0 || k > 11 || what < 0 || what > 4) {
            return NONE;
        }
        List<Integer> teams = new ArrayList<>(List.of(0, 1, 2, 3, 4, 5, 6, 7, 8, 9, 10, 11));
        teams.sort((t, u) -> {
            int[] s = table[t];
            int[] v = table[u];
            int byGiven = v[0] - s[0];
            int byLead = v[2] - v[3] - (s[2] - s[3]);
            return byGiven != 0 ? byGiven : byLead != 0 ? byLead : v[2] - s[2];
        });
        return what == 0 ? teams.get(k) : table[teams.get(k)][what - 1];
    }

    int count(int what) {
        int[] all = {questions.size(), wants(), rounds.size(), pack.size(), looks, ended, tape.length()};
        return what >= 0 && what < all.length ? all[what] : NONE;
    }
}
