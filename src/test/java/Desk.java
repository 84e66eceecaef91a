/** A league with texts in the place of fed numbers, and numbers in the place of exceptions. */
final class Desk {
    static final int THROWS_STATE = Integer.MIN_VALUE;
    static final int THROWS_ARGUMENT = Integer.MIN_VALUE + 1;
    static final int THROWS_NO_ELEMENT = Integer.MIN_VALUE + 2;

    final QuizLeague x = new QuizLeague();

    /** 12 QUESTIONS, a PACK of what the LAW wants, and the MATCH of TEAMS 0 and 1 begun. */
    static Desk playing(String law) {
        Desk d = new Desk().withQuestions(12, 8);
        int wanted = d.law(law);
        Checks.due("pack for " + law, d.pack(0, 1, 48, 0, 5000, 1000), 0);
        Checks.due("begin for " + law, d.x.begin(), true);
        Checks.due("pack's size for " + law, d.x.count(3), wanted);
        return d;
    }

    /** The right answer to QUESTION k of the MATCH. */
    String right(int k) {
        return wordOf(x.packed(k));
    }

    /** Leaves the tape with this text alone; its characters are bytes. */
    Desk text(String text) {
        x.end(0);
        for (int at = 0; at < text.length(); at += 20) {
            x.feed(number(text, at), number(text, at + 4), number(text, at + 8), number(text, at + 12), number(text, at + 16));
        }
        Checks.due("end behind a text", x.end(text.length()), true);
        return this;
    }

    private static int number(String text, int at) {
        int number = 0;
        for (int i = at; i < at + 4; i++) {
            number = number << 8 | (i < text.length() ? text.charAt(i) & 255 : 0);
        }
        return number;
    }

    int question(int theme, String form) {
        return text(form).x.question(theme);
    }

    int takes(int q, String answer) {
        return text(answer).x.takes(q);
    }

    int law(String law) {
        return text(law).x.law();
    }

    int answer(int side, String answer) {
        return text(answer).x.answer(side);
    }

    int asked(int q, int what) {
        try {
            return x.asked(q, what);
        } catch (java.util.NoSuchElementException e) {
            return THROWS_NO_ELEMENT;
        }
    }

    int event(int k, int what) {
        try {
            return x.event(k, what);
        } catch (java.util.NoSuchElementException e) {
            return THROWS_NO_ELEMENT;
        }
    }

    int pack(int a, int b, int most, int low, int high, int looks) {
        try {
            return x.pack(a, b, most, low, high, looks);
        } catch (IllegalArgumentException e) {
            return THROWS_ARGUMENT;
        } catch (IllegalStateException e) {
            return THROWS_STATE;
        }
    }

    /** Checks now(0) to now(5). */
    void dueNow(String what, int... wants) {
        for (int i = 0; i < wants.length; i++) {
            Checks.due(what + ": now(" + i + ")", x.now(i), wants[i]);
        }
    }

    /** Checks event(k, 0) to event(k, 5). */
    void dueEvent(String what, int k, int... wants) {
        for (int i = 0; i < wants.length; i++) {
            Checks.due(what + ": event(" + k + ", " + i + ")", event(k, i), wants[i]);
        }
    }

    /** The first n questions, of themes 0, 1 .. in turn; question k takes wordOf(k). */
    Desk withQuestions(int n, int themes) {
        for (int k = 0; k < n; k++) {
            Checks.due("question " + k, question(k % themes, wordOf(k)), k);
        }
        return this;
    }

    static String wordOf(int k) {
        return "q" + (char) ('a' + k / 26) + (char) ('a' + k % 26);
    }
}
