/** QUESTIONS, TEAMS and PACKS: each sentence of the document that names a boundary case. */
public final class PackBoundaryTest extends Checks {
    private static final String ONE = "round 1 turns right 1;";
    private static final String TWO = "round 2 turns right 1;";
    private static final String MOST = times("round 8 buzz right 0;", 6);

    public static void main(String[] args) {
        newObject();
        struck();
        struckRefused();
        struckWhileOn();
        hard();
        askedNone();
        seenByTeams();
        packTeams();
        packMost();
        packLowHigh();
        packLooks();
        packState();
        packArgumentsFirst();
        freeQuestions();
        themeFull();
        hardsFromLowToHigh();
        order();
        looksCounted();
        spent();
        noneThere();
        largest();
        packGoes();
        packedPlaces();
        beginRefused();
        beginOtherNumber();
        beginSpoilt();
        beginSides();
        counts();
        countOfLooks();
        close("PackBoundaryTest");
    }

    /** QUESTIONS of these THEMES, each with a FORM of its own. */
    private static Desk ofThemes(int... themes) {
        Desk d = new Desk();
        for (int q = 0; q < themes.length; q++) {
            due("question " + q, d.question(themes[q], Desk.wordOf(q)), q);
        }
        return d;
    }

    private static void duePacked(String what, Desk d, int... wants) {
        due(what + ": size", d.x.count(3), wants.length);
        for (int k = 0; k < wants.length; k++) {
            due(what + ": packed(" + k + ")", d.x.packed(k), wants[k]);
        }
        due(what + ": behind the last", d.x.packed(wants.length), NONE);
    }

    /** The MATCH of the PACK that was found last, each QUESTION known or not by the SIDE whose it is; a LAW of turns. */
    private static void play(Desk d, boolean... known) {
        due("begin", d.x.begin(), true);
        for (int k = 0; k < known.length; k++) {
            due("answer", d.answer(k % 2, known[k] ? d.right(k) : "x"), known[k] ? 1 : 0);
        }
        due("finish", d.x.finish(), true);
    }

    private static void newObject() {
        sentence("No QUESTIONS, no LAW, no PACK, no MATCH");
        Desk d = new Desk();
        for (int what = 0; what <= 6; what++) {
            due("count(" + what + ")", d.x.count(what), 0);
            due("now(" + what + ")", d.x.now(what), NONE);
        }
        due("asked", d.asked(0, 0), NO_ELEMENT);
        due("seen", d.x.seen(0, 0), false);
        due("strike", d.x.strike(0, true), false);
        due("takes", d.takes(0, "a"), NONE);
        due("packed", d.x.packed(0), NONE);
        due("pack", d.pack(0, 1, 1, 0, 0, 1), Desk.THROWS_STATE);
        due("begin", d.x.begin(), false);
        due("finish", d.x.finish(), false);
        due("call", d.x.call(), false);
        due("event", d.event(0, 0), NO_ELEMENT);
        due("the first law may come", d.law(ONE), 1);

        sentence("No QUESTIONS, no LAW, no PACK, no MATCH: of another object either");
        Desk other = Desk.playing(TWO);
        other.x.strike(0, true);
        Desk fresh = new Desk();
        due("its questions", fresh.x.count(0), 0);
        due("its law", fresh.x.count(1), 0);
        due("its pack", fresh.x.count(3), 0);
        due("its match", fresh.x.now(0), NONE);
    }

    private static void struck() {
        sentence("QUESTION q is STRUCK (on), or not any more: true, if that is another state");
        Desk d = new Desk().withQuestions(60, 8);
        for (int q : new int[] {0, 31, 32, 59}) {
            due("not struck at first", d.asked(q, 4), 0);
            due("off at first", d.x.strike(q, false), false);
            due("on", d.x.strike(q, true), true);
            due("on again", d.x.strike(q, true), false);
            due("struck", d.asked(q, 4), 1);
            due("off", d.x.strike(q, false), true);
            due("off again", d.x.strike(q, false), false);
            due("not struck", d.asked(q, 4), 0);
        }
    }

    private static void struckRefused() {
        sentence("false also without it");
        Desk d = ofThemes(0, 1);
        for (int q : new int[] {-1, 2, 59, 60, MIN, MAX}) {
            due("strike(" + q + ", true)", d.x.strike(q, true), false);
            due("strike(" + q + ", false)", d.x.strike(q, false), false);
        }
        due("none of the others", d.asked(0, 4) + d.asked(1, 4), 0);
        due("one that comes later", d.question(0, "a"), 2);
        due("is not struck", d.asked(2, 4), 0);
    }

    private static void struckWhileOn() {
        sentence("false also while a MATCH is on");
        Desk d = ofThemes(0, 1, 2);
        d.x.strike(2, true);
        d.law(ONE);
        d.pack(0, 1, 1, 0, 100, 1);
        d.x.begin();
        due("one of the pack", d.x.strike(0, true), false);
        due("another", d.x.strike(1, true), false);
        due("off", d.x.strike(2, false), false);
        d.x.nothing(0);
        due("when it is over", d.x.strike(1, true), false);
        due("0 as it was", d.asked(0, 4), 0);
        due("1 as it was", d.asked(1, 4), 0);
        due("2 as it was", d.asked(2, 4), 1);
        d.x.finish();
        due("behind finish", d.x.strike(1, true), true);
        d.x.strike(1, false);
        d.pack(2, 3, 1, 0, 100, 9);
        d.x.begin();
        d.x.call();
        due("behind call", d.x.strike(1, true), true);
    }

    private static void hard() {
        sentence("HARD: KNOWN by ASKED in hundredths, cut (50, if it was not ASKED)");
        Desk d = ofThemes(0);
        d.law(ONE);
        due("not asked", d.asked(0, 3), 50);
        boolean[] known = {false, true, false, true, true, true};
        int[] wants = {0, 50, 33, 50, 60, 66};
        for (int m = 0; m < 6; m++) {
            due("pack", d.pack(2 * m, 2 * m + 1, 1, 0, 100, 1), 0);
            play(d, known[m]);
            due("hard behind " + (m + 1), d.asked(0, 3), wants[m]);
            due("asked", d.asked(0, 1), m + 1);
            due("seen by", d.asked(0, 5), 2 * m + 2);
        }
        due("known", d.asked(0, 2), 4);
        Desk all = ofThemes(0);
        all.law(ONE);
        all.pack(0, 11, 1, 50, 50, 1);
        play(all, true);
        due("known each time", all.asked(0, 3), 100);
        Desk few = ofThemes(0);
        few.law(ONE);
        for (int m = 0; m < 6; m++) {
            few.pack(m, m + 6, 1, 0, 100, 1);
            play(few, m == 3);
        }
        due("a sixth", few.asked(0, 3), 16);
    }

    private static void askedNone() {
        sentence("NoSuchElementException: there is none, or another what");
        Desk d = ofThemes(7, 0);
        int[] wants = {7, 0, 0, 50, 0, 0};
        for (int what = 0; what < 6; what++) {
            due("asked(0, " + what + ")", d.asked(0, what), wants[what]);
        }
        for (int wrong : new int[] {-1, 6, MIN, MAX}) {
            due("what " + wrong, d.asked(0, wrong), NO_ELEMENT);
            due("what " + wrong + " of none", d.asked(2, wrong), NO_ELEMENT);
        }
        for (int q : new int[] {-1, 2, 59, 60, MIN, MAX}) {
            due("question " + q, d.asked(q, 0), NO_ELEMENT);
            due("question " + q, d.asked(q, 5), NO_ELEMENT);
        }
    }

    private static void seenByTeams() {
        sentence("TEAMS 0 .. 11; each has SEEN some QUESTIONS (none at first)");
        Desk d = ofThemes(0, 1);
        for (int team = 0; team < 12; team++) {
            due("at first", d.x.seen(team, 0), false);
        }
        d.law(ONE);
        d.pack(0, 11, 1, 0, 100, 1);
        play(d, true);
        for (int team = 0; team < 12; team++) {
            due("team " + team, d.x.seen(team, 0), team == 0 || team == 11);
            due("another question", d.x.seen(team, 1), false);
        }

        sentence("Whether a TEAM has SEEN QUESTION q; false without either");
        // 32 and 43 are 0 and 11, if a shift wraps around.
        for (int team : new int[] {-1, 12, 31, 32, 43, -21, MIN, MAX}) {
            due("team " + team, d.x.seen(team, 0), false);
        }
        for (int q : new int[] {-1, 2, 32, 60, MIN, MAX}) {
            due("question " + q, d.x.seen(0, q), false);
        }
        due("neither", d.x.seen(12, 2), false);
    }

    private static void packTeams() {
        sentence("IllegalArgumentException: no such TEAMS or both the same");
        Desk d = ofThemes(0);
        d.law(ONE);
        for (int team : new int[] {-1, 12, 32, MIN, MAX}) {
            due("a " + team, d.pack(team, 0, 1, 0, 100, 1), Desk.THROWS_ARGUMENT);
            due("b " + team, d.pack(0, team, 1, 0, 100, 1), Desk.THROWS_ARGUMENT);
            due("both " + team, d.pack(team, team, 1, 0, 100, 1), Desk.THROWS_ARGUMENT);
        }
        for (int team = 0; team < 12; team++) {
            due("both " + team, d.pack(team, team, 1, 0, 100, 1), Desk.THROWS_ARGUMENT);
            due("a team and the next", d.pack(team, (team + 1) % 12, 1, 0, 100, 1), 0);
        }
    }

    private static void packMost() {
        sentence("IllegalArgumentException: most not 1 to 48");
        Desk d = ofThemes(0);
        d.law(ONE);
        for (int most : new int[] {0, -1, 49, MIN, MAX}) {
            due("most " + most, d.pack(0, 1, most, 0, 100, 1), Desk.THROWS_ARGUMENT);
        }
        due("most 1", d.pack(0, 1, 1, 0, 100, 1), 0);
        due("most 48", d.pack(0, 1, 48, 0, 100, 1), 0);
    }

    private static void packLowHigh() {
        sentence("IllegalArgumentException: low above high");
        Desk d = ofThemes(0);
        d.law(ONE);
        due("51 above 50", d.pack(0, 1, 1, 51, 50, 1), Desk.THROWS_ARGUMENT);
        due("0 above -1", d.pack(0, 1, 1, 0, -1, 1), Desk.THROWS_ARGUMENT);
        due("the highest above the lowest", d.pack(0, 1, 1, MAX, MIN, 1), Desk.THROWS_ARGUMENT);
        due("50 and 50", d.pack(0, 1, 1, 50, 50, 1), 0);
        due("the lowest to the highest", d.pack(0, 1, 1, MIN, MAX, 1), 0);
        due("the lowest twice", d.pack(0, 1, 1, MIN, MIN, 1), 1);
        due("the highest twice", d.pack(0, 1, 1, MAX, MAX, 1), 1);
        due("below 0", d.pack(0, 1, 1, -9, -1, 1), 1);
    }

    private static void packLooks() {
        sentence("IllegalArgumentException: looks not 1 to 100000");
        Desk d = ofThemes(0);
        d.law(ONE);
        for (int looks : new int[] {0, -1, 100001, MIN, MAX}) {
            due("looks " + looks, d.pack(0, 1, 1, 0, 100, looks), Desk.THROWS_ARGUMENT);
        }
        due("looks 1", d.pack(0, 1, 1, 0, 100, 1), 0);
        due("looks 100000", d.pack(0, 1, 1, 0, 100, 100000), 0);
    }

    private static void packState() {
        sentence("IllegalStateException: no LAW, or a MATCH is on");
        Desk d = ofThemes(0, 1);
        due("no law", d.pack(0, 1, 1, 0, 100, 1), Desk.THROWS_STATE);
        d.law("round 9");
        due("none behind a faulty one", d.pack(0, 1, 1, 0, 100, 1), Desk.THROWS_STATE);
        d.law(ONE);
        due("a law", d.pack(0, 1, 1, 0, 100, 1), 0);
        d.law("round 9");
        due("a law that stays", d.pack(0, 1, 1, 0, 100, 1), 0);
        d.x.begin();
        due("a match is on", d.pack(2, 3, 1, 0, 100, 1), Desk.THROWS_STATE);
        d.x.nothing(0);
        due("it is over, but on", d.pack(2, 3, 1, 0, 100, 1), Desk.THROWS_STATE);
        d.x.undo();
        d.x.call();
        due("behind call", d.pack(2, 3, 1, 0, 100, 1), 0);
        play(d, true);
        due("behind finish", d.pack(0, 1, 1, 0, 100, 9), 0);
    }

    private static void packArgumentsFirst() {
        sentence("IllegalStateException (asked behind that)");
        int[][] wrong = {{0, 0, 1, 0, 0, 1}, {0, 12, 1, 0, 0, 1}, {0, 1, 0, 0, 0, 1}, {0, 1, 1, 1, 0, 1}, {0, 1, 1, 0, 0, 0}};
        Desk without = new Desk();
        Desk on = Desk.playing(TWO);
        for (int[] w : wrong) {
            due("without a law", without.pack(w[0], w[1], w[2], w[3], w[4], w[5]), Desk.THROWS_ARGUMENT);
            due("a match on", on.pack(w[0], w[1], w[2], w[3], w[4], w[5]), Desk.THROWS_ARGUMENT);
        }
        due("right ones without a law", without.pack(0, 1, 1, 0, 0, 1), Desk.THROWS_STATE);
        due("right ones, a match on", on.pack(0, 1, 1, 0, 0, 1), Desk.THROWS_STATE);
    }

    private static void freeQuestions() {
        sentence("none STRUCK, none SEEN by either");
        Desk d = ofThemes(0, 1, 2, 3, 4);
        d.law(ONE);
        d.pack(0, 1, 1, 0, 100, 1);
        play(d, true);
        d.x.strike(1, true);
        due("the first has seen 0", d.pack(0, 5, 1, 0, 100, 1), 0);
        duePacked("2 is the first", d, 2);
        due("the second has seen 0", d.pack(5, 1, 1, 0, 100, 1), 0);
        duePacked("2 is the first", d, 2);
        due("neither has", d.pack(5, 6, 1, 0, 100, 1), 0);
        duePacked("0 is the first", d, 0);
        d.x.strike(0, true);
        due("struck", d.pack(5, 6, 1, 0, 100, 1), 0);
        duePacked("2 is the first", d, 2);
        d.x.strike(0, false);
        d.x.strike(1, false);
        due("not any more", d.pack(0, 1, 1, 0, 100, 1), 0);
        duePacked("1 is the first", d, 1);
        due("one look, for the others are none", d.x.count(4), 1);
        for (int q = 0; q < 5; q++) {
            d.x.strike(q, true);
        }
        due("all struck", d.pack(5, 6, 1, 0, 100, 1), 1);
        due("no look", d.x.count(4), 0);
    }

    private static void themeFull() {
        sentence("at most so many of one THEME; its THEME not full");
        Desk d = ofThemes(3, 3, 3, 5, 7, 7);
        d.law("round 3 turns right 1;");
        due("one of each", d.pack(0, 1, 1, 0, 1000, 3), 0);
        duePacked("one of each", d, 0, 3, 4);
        due("two of each", d.pack(0, 1, 2, 0, 1000, 3), 0);
        duePacked("two of each", d, 0, 1, 3);
        due("three of each", d.pack(0, 1, 3, 0, 1000, 3), 0);
        duePacked("three of each", d, 0, 1, 2);
        d.law("round 4 turns right 1;");
        due("four, one of each", d.pack(0, 1, 1, 0, 1000, 1000), 1);
        due("four, two of each", d.pack(0, 1, 2, 0, 1000, 4), 0);
        duePacked("four, two of each", d, 0, 1, 3, 4);
        d.law("round 6 turns right 1;");
        due("all six, two of each", d.pack(0, 1, 2, 0, 1000, 1000), 1);
        due("all six, three of each", d.pack(0, 1, 3, 0, 1000, 6), 0);
        duePacked("all six", d, 0, 1, 2, 3, 4, 5);
    }

    private static void hardsFromLowToHigh() {
        sentence("whose HARDS together are from low to high");
        Desk d = ofThemes(0, 1, 2, 3);
        d.law(TWO);
        due("49 each would do", d.pack(0, 1, 1, 0, 99, 100), 1);
        due("no more than 100", d.pack(0, 1, 1, 0, 100, 100), 0);
        due("51 each would do", d.pack(0, 1, 1, 101, 200, 100), 1);
        due("no less than 100", d.pack(0, 1, 1, 100, 200, 100), 0);
        due("just 100", d.pack(0, 1, 1, 100, 100, 100), 0);
        play(d, true, false);
        // HARDS are 100, 0, 50, 50 now.
        int[][] wants = {{100, 0, 1}, {150, 0, 2}, {50, 1, 2}};
        for (int[] w : wants) {
            due("just " + w[0], d.pack(2, 3, 1, w[0], w[0], 100), 0);
            duePacked("just " + w[0], d, w[1], w[2]);
        }
        due("nothing at 0", d.pack(2, 3, 1, 0, 49, 100), 1);
        due("nothing at 200", d.pack(2, 3, 1, 151, 200, 100), 1);
        due("nothing between", d.pack(2, 3, 1, 51, 99, 100), 1);
    }

    private static void order() {
        sentence("ORDER of PACKS: by the first QUESTION in which they are unlike");
        Desk d = ofThemes(0, 0, 1, 1, 2);
        d.law(TWO);
        due("pack", d.pack(0, 1, 1, 0, 1000, 100), 0);
        duePacked("0 with the next of another theme", d, 0, 2);
        d.x.strike(2, true);
        due("pack", d.pack(0, 1, 1, 0, 1000, 100), 0);
        duePacked("then 3", d, 0, 3);
        d.x.strike(3, true);
        due("pack", d.pack(0, 1, 1, 0, 1000, 100), 0);
        duePacked("then 4", d, 0, 4);
        d.x.strike(0, true);
        due("pack", d.pack(0, 1, 1, 0, 1000, 100), 0);
        duePacked("then without 0", d, 1, 4);
    }

    private static void looksCounted() {
        sentence("each time one is put in is a LOOK; with n in the HARDS are judged");
        Desk d = ofThemes(0, 1, 2, 3);
        d.law(TWO);
        due("found at once", d.pack(0, 1, 1, 100, 100, 100), 0);
        due("two looks", d.x.count(4), 2);
        play(d, true, false);
        // 0 1, 0 2: three looks; 0 3, 1, 1 2: six.
        due("150", d.pack(2, 3, 1, 150, 150, 100), 0);
        due("looks for 150", d.x.count(4), 3);
        due("50", d.pack(2, 3, 1, 50, 50, 100), 0);
        due("looks for 50", d.x.count(4), 6);
        due("none: all firsts and all pairs", d.pack(2, 3, 1, 0, 0, 100), 1);
        due("looks for none", d.x.count(4), 10);
        d.law(ONE);
        due("one alone", d.pack(2, 3, 1, 0, 0, 100), 0);
        due("looks for 1", d.x.count(4), 2);

        sentence("each QUESTION that may come as things are is at first in, then out");
        Desk few = ofThemes(0, 1, 2);
        few.law("round 4 turns right 1;");
        due("too few of them", few.pack(0, 1, 1, 0, 1000, 7), 1);
        due("are put in all the same", few.x.count(4), 7);
        Desk full = ofThemes(0, 0, 0);
        full.law(TWO);
        due("a theme that is full", full.pack(0, 1, 1, 0, 1000, 100), 1);
        due("is not put in twice", full.x.count(4), 3);
    }

    private static void spent() {
        sentence("SPENT: one more LOOK than told would be needed");
        Desk d = ofThemes(0, 1, 2, 3);
        d.law(TWO);
        due("1 of 2", d.pack(0, 1, 1, 0, 100, 1), 2);
        due("its looks", d.x.count(4), 1);
        due("2 of 2", d.pack(0, 1, 1, 0, 100, 2), 0);
        due("its looks", d.x.count(4), 2);
        for (int looks = 1; looks < 10; looks++) {
            due(looks + " of 10", d.pack(0, 1, 1, 0, 99, looks), 2);
            due("its looks", d.x.count(4), looks);
        }
        due("10 of 10", d.pack(0, 1, 1, 0, 99, 10), 1);
        due("its looks", d.x.count(4), 10);
        due("11 of 10", d.pack(0, 1, 1, 0, 99, 11), 1);
        due("its looks", d.x.count(4), 10);
    }

    private static void noneThere() {
        sentence("1 there is none (no PACK then), 2 SPENT (likewise)");
        Desk none = new Desk();
        none.law(ONE);
        due("no questions at all", none.pack(0, 1, 1, MIN, MAX, 1), 1);
        due("no looks", none.x.count(4), 0);
        Desk d = ofThemes(0, 1);
        d.law(TWO);
        due("there is one", d.pack(0, 1, 1, 0, 100, 9), 0);
        due("there is none", d.pack(0, 1, 1, 0, 99, 9), 1);
        duePacked("no pack then", d);
        due("nothing to begin", d.x.begin(), false);
        due("there is one", d.pack(0, 1, 1, 0, 100, 9), 0);
        due("spent", d.pack(0, 1, 1, 0, 100, 1), 2);
        duePacked("no pack then", d);
        due("nothing to begin", d.x.begin(), false);
        due("there is one", d.pack(0, 1, 1, 0, 100, 9), 0);
        duePacked("again", d, 0, 1);
    }

    private static void largest() {
        sentence("of as many QUESTIONS as the LAW wants");
        Desk d = new Desk().withQuestions(60, 8);
        d.law(MOST);
        due("48 with 47 looks", d.pack(0, 1, 6, 2400, 2400, 47), 2);
        due("48, six of each theme", d.pack(0, 1, 6, 2400, 2400, 48), 0);
        due("the pack", d.x.count(3), 48);
        due("its last", d.x.packed(47), 47);
        due("none behind it", d.x.packed(48), NONE);
        due("48, five of each theme", d.pack(0, 1, 5, 0, 5000, 100000), 2);
        due("the most looks", d.x.count(4), 100000);
        due("48 that are all too easy", d.pack(0, 1, 6, 0, 2399, 49), 2);
        due("a look behind the first 48", d.x.count(4), 49);
        d.law(ONE);
        due("one", d.pack(0, 1, 1, 50, 50, 1), 0);
        duePacked("one", d, 0);
    }

    private static void packGoes() {
        sentence("A call that throws changes nothing: pack()");
        Desk d = ofThemes(0, 1, 2);
        d.law(TWO);
        d.pack(7, 3, 1, 0, 100, 9);
        d.text("abc");
        int[] before = new int[7];
        for (int what = 0; what < 7; what++) {
            before[what] = d.x.count(what);
        }
        due("wrong teams", d.pack(5, 5, 1, 0, 100, 9), Desk.THROWS_ARGUMENT);
        due("wrong looks", d.pack(5, 6, 1, 0, 100, 0), Desk.THROWS_ARGUMENT);
        for (int what = 0; what < 7; what++) {
            due("count(" + what + ")", d.x.count(what), before[what]);
        }
        duePacked("the pack", d, 0, 1);
        d.x.begin();
        due("a match is on", d.pack(5, 6, 1, 0, 100, 1), Desk.THROWS_STATE);
        duePacked("the pack", d, 0, 1);
        due("its looks", d.x.count(4), 2);
        d.x.nothing(0);
        d.x.nothing(1);
        d.x.finish();
        due("the pack's teams too: 7", d.x.seen(7, 0), true);
        due("the pack's teams too: 3", d.x.seen(3, 1), true);
        due("not 5", d.x.seen(5, 0), false);
    }

    private static void packedPlaces() {
        sentence("QUESTION k of the PACK; NONE without it");
        Desk d = ofThemes(0, 1, 2, 3);
        due("no pack", d.x.packed(0), NONE);
        d.law(TWO);
        d.x.strike(1, true);
        d.pack(0, 1, 1, 0, 100, 9);
        for (int k : new int[] {-1, 2, 3, 47, 48, MIN, MAX}) {
            due("packed(" + k + ")", d.x.packed(k), NONE);
        }
        duePacked("found", d, 0, 2);
        d.x.begin();
        duePacked("while the match is on", d, 0, 2);
        d.x.call();
        duePacked("behind call", d, 0, 2);
        d.law(ONE);
        duePacked("with another law", d, 0, 2);
    }

    private static void beginRefused() {
        sentence("false: no PACK, one is on");
        Desk d = ofThemes(0, 1, 2);
        due("nothing at all", d.x.begin(), false);
        d.law(ONE);
        due("no pack", d.x.begin(), false);
        due("no match", d.x.now(0), NONE);
        d.pack(0, 1, 1, 0, 100, 1);
        due("begin", d.x.begin(), true);
        due("one is on", d.x.begin(), false);
        d.x.nothing(0);
        due("it is over, but on", d.x.begin(), false);
        due("its event is there", d.x.now(4), 1);
        d.x.call();
        due("behind call", d.x.begin(), true);
    }

    private static void beginOtherNumber() {
        sentence("false: the LAW wants another number now");
        Desk d = ofThemes(0, 1, 2, 3);
        d.law(TWO);
        d.pack(0, 1, 1, 0, 1000, 9);
        d.law(ONE);
        due("fewer", d.x.begin(), false);
        d.law("round 3 turns right 1;");
        due("more", d.x.begin(), false);
        d.law("round 9");
        due("a faulty law leaves the one ahead", d.x.begin(), false);
        d.law("round 1 buzz right 7;round 1 buzz right 8;");
        due("as many in other rounds", d.x.begin(), true);
        d.answer(1, d.right(0));
        due("by the law of now", d.x.now(3), 7);
        d.answer(1, d.right(1));
        due("and its second round", d.x.now(3), 15);
    }

    private static void beginSpoilt() {
        sentence("false: a QUESTION of the PACK was STRUCK or SEEN by one of them since");
        for (int q = 0; q < 4; q++) {
            Desk d = ofThemes(0, 1, 2, 3);
            d.law("round 3 turns right 1;");
            d.pack(0, 1, 1, 0, 1000, 9);
            d.x.strike(q, true);
            due(q + " struck", d.x.begin(), q == 3);
        }
        Desk d = ofThemes(0, 1, 2, 3);
        d.law(TWO);
        d.pack(0, 1, 1, 0, 1000, 9);
        play(d, true, true);
        duePacked("the pack stays", d, 0, 1);
        due("seen by both", d.x.begin(), false);
        due("a pack of others", d.pack(2, 3, 1, 0, 1000, 9), 0);
        duePacked("of the same questions", d, 0, 1);
        due("which these have not seen", d.x.begin(), true);
        d.x.call();
        due("nor when it was dropped", d.x.begin(), true);
    }

    private static void beginSides() {
        sentence("A MATCH of the PACK's TEAMS begins, SIDE 0 the first");
        Desk d = ofThemes(0, 1, 2, 3);
        d.law("round 1 buzz right 4;");
        d.pack(11, 0, 1, 0, 1000, 9);
        d.x.begin();
        d.dueNow("at first", 0, 2, 0, 0, 0, 0);
        d.answer(0, d.right(0));
        d.x.finish();
        due("the first of the table", d.x.table(0, 0), 11);
        due("its points", d.x.table(0, 3), 4);
        due("the last of the table", d.x.table(11, 0), 0);
        due("points against it", d.x.table(11, 4), 4);
    }

    private static void counts() {
        sentence("NONE for another what: count()");
        Desk d = ofThemes(0, 1, 2);
        d.law("round 1 buzz right 4;round 1 turns right 1;");
        d.pack(11, 0, 1, 0, 1000, 9);
        d.text("abcd");
        int[] wants = {3, 2, 2, 2, 2, 0, 4};
        for (int what = 0; what < 7; what++) {
            due("count(" + what + ")", d.x.count(what), wants[what]);
        }
        for (int what : new int[] {-1, 7, 8, MIN, MAX}) {
            due("count(" + what + ")", d.x.count(what), NONE);
        }

        sentence("5 MATCHES ENDED");
        d.law(ONE);
        for (int m = 0; m < 4; m++) {
            due("ended", d.x.count(5), m);
            d.pack(2 * m, 2 * m + 1, 1, 0, 100, 9);
            d.x.begin();
            due("not by begin", d.x.count(5), m);
            d.x.call();
            due("not by call", d.x.count(5), m);
            play(d, m % 2 == 0);
        }
        due("ended", d.x.count(5), 4);
    }

    private static void countOfLooks() {
        sentence("4 LOOKS of the latest pack() that did not throw");
        Desk d = ofThemes(0, 1, 2);
        due("ahead of any", d.x.count(4), 0);
        d.pack(0, 1, 1, 0, 1000, 9);
        due("no law", d.x.count(4), 0);
        d.law(TWO);
        due("found", d.pack(0, 1, 1, 0, 1000, 9), 0);
        due("looks", d.x.count(4), 2);
        due("none", d.pack(0, 1, 1, 0, 99, 9), 1);
        due("looks", d.x.count(4), 6);
        due("a throw", d.pack(0, 0, 1, 0, 99, 9), Desk.THROWS_ARGUMENT);
        due("looks still", d.x.count(4), 6);
        due("spent", d.pack(0, 1, 1, 0, 99, 5), 2);
        due("looks", d.x.count(4), 5);
        due("found", d.pack(0, 1, 1, 0, 1000, 9), 0);
        d.x.begin();
        due("a throw while a match is on", d.pack(0, 1, 1, 0, 99, 9), Desk.THROWS_STATE);
        due("looks still", d.x.count(4), 2);
    }
}
