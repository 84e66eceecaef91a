import java.util.Random;

/** Long seeded runs of calls, each answer held against the plain model's. */
public final class ModelTest {
    private static final int RUNS = 3000;
    private static final int CALLS = 512;
    private static final String[] WORDS = {"a", "b", "c", "dd", "abcdefghijkl"};

    private final Random random;
    private final Desk desk = new Desk();
    private final Model m = new Model();
    private final String[] forms = new String[60];
    private final int seed;
    private int calls = 0;

    private ModelTest(int seed) {
        this.seed = seed;
        random = new Random(seed);
    }

    public static void main(String[] args) {
        for (int seed = 0; seed < RUNS && !Checks.hasManyWrong(); seed++) {
            new ModelTest(seed).run();
        }
        Checks.close("ModelTest");
    }

    private void same(String call, long got, long want) {
        calls++;
        Checks.due("seed " + seed + ", call " + calls + ": " + call, got, want);
    }

    private void same(String call, boolean got, boolean want) {
        same(call, got ? 1 : 0, want ? 1 : 0);
    }

    private int upTo(int n) {
        return random.nextInt(n);
    }

    private boolean chance(int percent) {
        return random.nextInt(100) < percent;
    }

    /** One of low .. high, now and then one beyond. */
    private int near(int low, int high) {
        if (chance(6)) {
            int[] far = {low - 1, high + 1, Integer.MIN_VALUE, Integer.MAX_VALUE};
            return far[upTo(4)];
        }
        return low + upTo(high - low + 1);
    }

    private void put(String text) {
        for (int at = 0; at < text.length() && at < 260; at += 20) {
            int[] n = new int[5];
            for (int i = 0; i < 20; i++) {
                n[i / 4] = n[i / 4] << 8 | (at + i < text.length() ? text.charAt(at + i) : upTo(256));
            }
            same("feed", desk.x.feed(n[0], n[1], n[2], n[3], n[4]), m.feed(n));
        }
        same("end " + text.length(), desk.x.end(text.length()), m.end(text.length()));
    }

    private String word() {
        return WORDS[upTo(chance(5) ? 5 : 3)];
    }

    private String number() {
        return (chance(10) ? "00" : "") + upTo(4);
    }

    private String form(int depth) {
        StringBuilder s = new StringBuilder();
        int rows = chance(75) ? 1 : 2 + upTo(2);
        for (int r = 0; r < rows; r++) {
            s.append(r == 0 ? "" : "|");
            int parts = 1 + upTo(3);
            for (int p = 0; p < parts; p++) {
                s.append(p == 0 && chance(90) ? "" : " ").append(part(depth));
            }
        }
        return s.toString();
    }

    private String part(int depth) {
        int kind = depth > 6 ? upTo(4) : upTo(9);
        switch (kind) {
            case 0: case 1: case 2:
                return word();
            case 3:
                return number();
            case 4:
                return upTo(3) + ".." + (1 + upTo(4));
            case 5:
                return "[" + form(depth + 1) + "]";
            case 6:
                return "(" + form(depth + 1) + ")";
            default:
                StringBuilder s = new StringBuilder("{").append(form(depth + 1));
                int more = upTo(chance(15) ? 6 : 3);
                for (int i = 0; i < more; i++) {
                    s.append(",").append(depth > 1 ? word() : form(depth + 2));
                }
                return s.append("}").toString();
        }
    }

    private String spoilt(String text) {
        String signs = "abz09 |[](){},.;A\0" + (char) 225;
        StringBuilder s = new StringBuilder(text);
        int times = 1 + upTo(2);
        for (int i = 0; i < times; i++) {
            int at = upTo(s.length() + 1);
            char sign = signs.charAt(upTo(signs.length()));
            if (chance(50) || at == s.length()) {
                s.insert(at, sign);
            } else if (chance(50)) {
                s.deleteCharAt(at);
            } else {
                s.setCharAt(at, sign);
            }
        }
        return s.toString();
    }

    /** Blanks ahead, so that the text comes to stand about byte 200. */
    private String pushed(String text) {
        int room = 190 + upTo(20) - upTo(text.length() + 1);
        String all = " ".repeat(Math.max(room, 0)) + text;
        return all.length() > 260 ? all.substring(0, 260) : all;
    }

    private String changed(String text, int percent) {
        String s = chance(percent) ? spoilt(text) : text;
        s = chance(percent / 3) ? pushed(s) : s;
        return s.length() > 260 ? s.substring(0, 260) : s;
    }

    private String shortForm() {
        String s = form(0);
        for (int i = 0; i < 20 && s.length() > 100; i++) {
            s = form(1);
        }
        return s.length() > 100 ? word() : s;
    }

    /** An ANSWER drawn from the text of a FORM: its words and numbers, some left out, some moved. */
    private String answerLike(String form) {
        String[] pieces = form.replaceAll("[^a-z0-9]+", " ").trim().split(" ");
        StringBuilder s = new StringBuilder();
        for (String piece : pieces) {
            if (chance(form.length() > 12 ? 60 : 92)) {
                s.insert(chance(85) ? s.length() : 0, chance(90) ? " " + piece + " " : " " + word() + " ");
            }
        }
        return chance(50) ? s.toString() : s.toString().trim();
    }

    private String law() {
        StringBuilder s = new StringBuilder();
        int rounds = 1 + upTo(chance(4) ? 7 : 3);
        for (int r = 0; r < rounds; r++) {
            boolean buzz = chance(50);
            s.append("round ").append(chance(3) ? upTo(11) : 1 + upTo(3)).append(buzz ? " buzz" : " turns");
            s.append(" right ").append(chance(3) ? 19 + upTo(4) : upTo(5));
            s.append(chance(buzz ? 2 : 70) ? " pass " + upTo(3) : "");
            s.append(chance(60) ? " wrong " + upTo(3) : "").append(";");
        }
        return s.toString();
    }

    private void run() {
        for (int i = 0; i < 4 + upTo(10); i++) {
            addQuestion();
        }
        while (calls < CALLS - 40) {
            step();
        }
    }

    private void addQuestion() {
        String text = chance(60) ? word() : shortForm();
        String form = changed(text, 25);
        put(form);
        int theme = near(0, 7) % 3;
        int want = m.question(theme);
        if (want >= 0) {
            forms[want] = form;
        }
        same("question(" + theme + ") <" + form + ">", desk.x.question(theme), want);
        same("fault", desk.x.fault(), m.fault);
    }

    private void step() {
        int kind = upTo(100);
        if (kind < 5) {
            addQuestion();
        } else if (kind < 17) {
            takes();
        } else if (kind < 21) {
            readLaw();
        } else if (m.on ? kind < 75 : kind < 40) {
            play();
        } else if (kind < 80) {
            prepare();
        } else {
            look();
        }
    }

    private void takes() {
        int q = near(0, Math.max(m.questions.size() - 1, 0));
        String form = q >= 0 && q < m.questions.size() ? forms[q] : word();
        String answer = changed(answerLike(form), 10);
        put(answer);
        same("takes(" + q + ") <" + answer + "> of <" + form + ">", desk.x.takes(q), m.takes(q));
    }

    private void readLaw() {
        String law = changed(law(), 25);
        put(law);
        same("law <" + law + ">", desk.x.law(), m.law());
        same("fault", desk.x.fault(), m.fault);
    }

    private void play() {
        int side = chance(3) ? near(0, 1) : upTo(2);
        switch (upTo(8)) {
            case 0: case 1: case 2:
                int q = m.packed(Math.max(m.now(0), 0));
                String form = q >= 0 ? forms[q] : word();
                String answer = chance(70) ? answerLike(form) : changed(word(), 30);
                put(answer);
                same("answer(" + side + ") <" + answer + ">", desk.x.answer(side), m.answer(side));
                break;
            case 3:
                same("nothing(" + side + ")", desk.x.nothing(side), m.nothing(side));
                break;
            case 4:
                same("dead", desk.x.dead(), m.dead());
                break;
            case 5: case 6:
                int k = near(0, Math.max(m.events.size() - 1, 0));
                boolean right = chance(50);
                same("appeal(" + k + ", " + right + ")", desk.x.appeal(k, right), m.appeal(k, right));
                break;
            default:
                same("undo", desk.x.undo(), m.undo());
                break;
        }
        if (m.now(1) == 3 && chance(40)) {
            same("finish", desk.x.finish(), m.finish());
        }
        allOfMatch();
    }

    private void allOfMatch() {
        for (int what = 0; what <= 5; what++) {
            same("now(" + what + ")", desk.x.now(what), m.now(what));
        }
        int k = near(0, Math.max(m.events.size() - 1, 0));
        int what = near(0, 5);
        same("event(" + k + ", " + what + ")", desk.event(k, what), m.event(k, what));
    }

    private void prepare() {
        int q = near(0, Math.max(m.questions.size() - 1, 0));
        boolean on = chance(40);
        switch (upTo(6)) {
            case 0:
                same("strike(" + q + ", " + on + ")", desk.x.strike(q, on), m.strike(q, on));
                break;
            case 1: case 2: case 3:
                pack();
                same("begin", desk.x.begin(), m.begin());
                break;
            case 4:
                same("begin", desk.x.begin(), m.begin());
                break;
            default:
                boolean call = chance(15);
                same("finish", desk.x.finish(), m.finish());
                if (call) {
                    same("call", desk.x.call(), m.call());
                }
                break;
        }
    }

    private void pack() {
        int a = near(0, 11);
        int b = near(0, 11);
        int most = chance(80) ? 1 + upTo(5) : near(1, 48);
        int low = chance(50) ? near(0, 50) : upTo(300);
        int high = chance(50) ? 5000 : low - 5 + upTo(200);
        int looks = chance(60) ? 2000 : near(1, 60);
        String call = "pack(" + a + ", " + b + ", " + most + ", " + low + ", " + high + ", " + looks + ")";
        same(call, desk.pack(a, b, most, low, high, looks), m.pack(a, b, most, low, high, looks));
        same("looks of " + call, desk.x.count(4), m.count(4));
        int k = near(0, Math.max(m.pack.size() - 1, 0));
        same("packed(" + k + ")", desk.x.packed(k), m.packed(k));
    }

    private void look() {
        int q = near(0, Math.max(m.questions.size() - 1, 0));
        int what = near(0, 6);
        int team = near(0, 11);
        switch (upTo(6)) {
            case 0:
                same("asked(" + q + ", " + what + ")", desk.asked(q, what), m.asked(q, what));
                break;
            case 1:
                same("seen(" + team + ", " + q + ")", desk.x.seen(team, q), m.seen(team, q));
                break;
            case 2: case 3:
                same("table(" + team + ", " + what + ")", desk.x.table(team, what), m.table(team, what));
                break;
            case 4:
                same("packed(" + q + ")", desk.x.packed(q), m.packed(q));
                break;
            default:
                same("count(" + what + ")", desk.x.count(what), m.count(what));
                break;
        }
    }
}
