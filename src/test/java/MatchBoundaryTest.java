/** MATCHES, EVENTS, APPEALS, the LEAGUE and its TABLE: each sentence of the document that names a boundary case. */
public final class MatchBoundaryTest extends Checks {
    private static final String TURNS = "round 2 turns right 5 wrong 3;";
    private static final String PASS = "round 2 turns right 5 pass 2 wrong 3;";
    private static final String BUZZ = "round 2 buzz right 5 wrong 3;";

    public static void main(String[] args) {
        roundsTogether();
        firstOfTurns();
        turnsWithoutPass();
        turnsWithPass();
        passOfNoPoints();
        wrongOfNoPoints();
        turnsNotDead();
        buzz();
        buzzDead();
        buzzNotNothing();
        answerThatIsNone();
        answerOfNoSide();
        refusedWithoutMatch();
        refusedWhenOver();
        mostEvents();
        appealRefused();
        appealWhateverItTook();
        appealVoid();
        appealOfVoid();
        appealOverAsTheyStand();
        appealOfTheLast();
        appealOfBuzz();
        appealGoneThroughAnew();
        undo();
        undoNone();
        now();
        nowNone();
        event();
        eventNone();
        finish();
        finishKnown();
        callDropped();
        throwsChangeNothing();
        given();
        tableOrder();
        tableNone();
        mostPoints();
        close("MatchBoundaryTest");
    }

    private static void roundsTogether() {
        sentence("as many as the ROUNDS tell together");
        Desk d = Desk.playing("round 1 turns right 1;round 2 buzz right 2;round 1 turns right 3 pass 4;");
        int[] points = {1, 2, 2, 3};
        int[] sum = {0, 0};
        for (int k = 0; k < 4; k++) {
            due("at hand", d.x.now(0), k);
            due("right", d.answer(k % 2, d.right(k)), 1);
            sum[k % 2] += points[k];
            due("points of 0", d.x.now(2), sum[0]);
            due("points of 1", d.x.now(3), sum[1]);
        }
        due("all four are over", d.x.now(1), 3);
        Desk one = Desk.playing("round 1 buzz right 1;");
        one.x.dead();
        one.dueNow("one alone", 1, 3, 0, 0, 1, 0);
    }

    private static void firstOfTurns() {
        sentence("QUESTION k of the MATCH (from 0 on) is at first SIDE k MOD 2's");
        Desk d = Desk.playing("round 1 turns right 1;round 3 turns right 1 pass 1;round 3 turns right 1;");
        for (int k = 0; k < 7; k++) {
            due("at hand", d.x.now(0), k);
            due("whose", d.x.now(1), k % 2);
            due("not the other's to answer", d.answer(1 - k % 2, d.right(k)), NONE);
            due("nor to say nothing", d.x.nothing(1 - k % 2), false);
            d.answer(k % 2, d.right(k));
        }
        d.dueNow("over", 7, 3, 4, 3, 7, 0);
        Desk behind = Desk.playing("round 1 buzz right 1;round 2 turns right 1;");
        behind.x.dead();
        due("counted from the match's first, not the round's", behind.x.now(1), 1);
    }

    private static void turnsWithoutPass() {
        sentence("one that is not loses 'wrong' points, NOTHING none; then it is over");
        Desk d = Desk.playing("round 4 turns right 5 wrong 3;");
        due("not right", d.answer(0, "x"), 0);
        d.dueNow("loses", 1, 1, -3, 0, 1, 0);
        due("nothing", d.x.nothing(1), true);
        d.dueNow("loses none", 2, 0, -3, 0, 2, 0);
        due("right", d.answer(0, d.right(2)), 1);
        d.dueNow("has its points", 3, 1, 2, 0, 3, 0);
        due("not right", d.answer(1, ""), 0);
        d.dueNow("over", 4, 3, 2, -3, 4, 0);
    }

    private static void turnsWithPass() {
        sentence("with 'pass', the other SIDE's: right has the points of 'pass', then it is over whatever comes");
        for (int first = 0; first < 2; first++) {
            for (int second = 0; second < 3; second++) {
                Desk d = Desk.playing(PASS);
                due("first", first == 0 ? d.answer(0, "x") == 0 : d.x.nothing(0), true);
                int lost = first == 0 ? -3 : 0;
                d.dueNow("the other's", 0, 1, lost, 0, 1, 0);
                due("not its own any more", d.answer(0, d.right(0)), NONE);
                due("nor nothing", d.x.nothing(0), false);
                due("nor dead", d.x.dead(), false);
                boolean came = second == 0 ? d.answer(1, d.right(0)) == 1 : second == 1 ? d.answer(1, "x") == 0 : d.x.nothing(1);
                due("second", came, true);
                d.dueNow("over, and nothing is lost", 1, 1, lost, second == 0 ? 2 : 0, 2, 0);
            }
        }
        Desk right = Desk.playing(PASS);
        right.answer(0, right.right(0));
        right.dueNow("no pass behind a right one", 1, 1, 5, 0, 1, 0);
    }

    private static void passOfNoPoints() {
        sentence("[ 'pass' NUMBER ]: 0 is a 'pass' too");
        Desk zero = Desk.playing("round 2 turns right 5 pass 0 wrong 3;");
        zero.x.nothing(0);
        zero.dueNow("the other's", 0, 1, 0, 0, 1, 0);
        due("right", zero.answer(1, zero.right(0)), 1);
        zero.dueNow("for no points", 1, 1, 0, 0, 2, 0);
        due("event's points", zero.event(1, 5), 0);
        zero.answer(1, zero.right(1));
        zero.x.finish();
        due("it is known all the same", zero.asked(0, 2), 1);
        Desk most = Desk.playing("round 2 turns right 0 pass 20 wrong 20;");
        most.answer(0, "x");
        most.answer(1, most.right(0));
        most.dueNow("the most points", 1, 1, -20, 20, 2, 0);
    }

    private static void wrongOfNoPoints() {
        sentence("loses 'wrong' points (0 without)");
        for (String law : new String[] {"round 2 turns right 5;", "round 2 turns right 5 wrong 0;"}) {
            Desk d = Desk.playing(law);
            d.answer(0, "x");
            d.dueNow(law, 1, 1, 0, 0, 1, 0);
        }
        for (String law : new String[] {"round 2 buzz right 5;", "round 2 buzz right 5 wrong 0;"}) {
            Desk d = Desk.playing(law);
            d.answer(0, "x");
            d.dueNow(law, 0, 1, 0, 0, 1, 0);
        }
        // The law behind it has not the 'wrong' and 'pass' of the one ahead.
        Desk d = new Desk().withQuestions(2, 2);
        d.law("round 1 turns right 5 pass 4 wrong 3;");
        d.law("round 1 buzz right 5;");
        d.law("round 2 turns right 5;");
        d.pack(0, 1, 1, 0, 100, 9);
        d.x.begin();
        d.answer(0, "x");
        d.dueNow("neither passed nor lost", 1, 1, 0, 0, 1, 0);
    }

    private static void turnsNotDead() {
        sentence("turns: DEAD can't come");
        Desk d = Desk.playing(PASS);
        due("at first", d.x.dead(), false);
        d.x.nothing(0);
        due("when it is passed", d.x.dead(), false);
        d.dueNow("as it was", 0, 1, 0, 0, 1, 0);
        Desk mixed = Desk.playing("round 1 buzz right 1;round 1 turns right 1;round 1 buzz right 1;");
        due("buzz", mixed.x.dead(), true);
        due("turns", mixed.x.dead(), false);
        mixed.x.nothing(1);
        due("buzz again", mixed.x.dead(), true);
    }

    private static void buzz() {
        sentence("buzz: one that is not loses 'wrong' points, and it is the other SIDE's, of which it is the same, and then it is over");
        for (int side = 0; side < 2; side++) {
            Desk d = Desk.playing(BUZZ);
            d.dueNow("either's", 0, 2, 0, 0, 0, 0);
            due("wrong", d.answer(side, "x"), 0);
            due("the other's", d.x.now(1), 1 - side);
            due("not its own", d.answer(side, d.right(0)), NONE);
            due("wrong too", d.answer(1 - side, "x"), 0);
            d.dueNow("over", 1, 2, -3, -3, 2, 0);
            due("wrong", d.answer(1 - side, "x"), 0);
            due("right", d.answer(side, d.right(1)), 1);
            due("all its points", d.x.now(2 + side), 2);
            due("the other's", d.x.now(3 - side), -6);
            due("over", d.x.now(1), 3);
            Desk right = Desk.playing(BUZZ);
            due("right at first", right.answer(side, right.right(0)), 1);
            right.dueNow("over", 1, 2, side == 0 ? 5 : 0, side == 1 ? 5 : 0, 1, 0);
        }
    }

    private static void buzzDead() {
        sentence("DEAD: it is over");
        Desk d = Desk.playing(BUZZ);
        due("at first", d.x.dead(), true);
        d.dueNow("over", 1, 2, 0, 0, 1, 0);
        d.answer(1, "x");
        due("behind a wrong one", d.x.dead(), true);
        d.dueNow("over", 2, 3, 0, -3, 3, 0);
        due("of no side", d.event(2, 2), NONE);
    }

    private static void buzzNotNothing() {
        sentence("buzz: NOTHING can't come");
        Desk d = Desk.playing(BUZZ);
        due("of 0", d.x.nothing(0), false);
        due("of 1", d.x.nothing(1), false);
        d.answer(0, "x");
        due("of the other", d.x.nothing(1), false);
        due("of the same", d.x.nothing(0), false);
        d.dueNow("as it was", 0, 1, -3, 0, 1, 0);
    }

    private static void answerThatIsNone() {
        sentence("what is no ANSWER is one that is not right");
        for (String text : new String[] {"", "  ", "?", "A", "qaa;", "a1", times("a ", 21), "qaa" + times(" ", 198), times("a", 13)}) {
            Desk d = Desk.playing(TURNS);
            due("<" + text + ">", d.answer(0, text), 0);
            d.dueEvent("<" + text + ">", 0, 0, 0, 0, 0, 0, -3);
        }
        Desk d = Desk.playing(TURNS);
        due("200 bytes are one", d.answer(0, "qaa" + times(" ", 197)), 1);
        due("the form of another question", d.answer(1, d.right(0)), 0);
        Desk behind = Desk.playing(TURNS);
        behind.takes(0, "qaa");
        due("not the tape of a call ahead", behind.x.answer(0), 0);
    }

    private static void answerOfNoSide() {
        sentence("NONE: it can't come; false likewise: a SIDE that is none");
        for (int side : new int[] {-1, 2, 3, MIN, MAX}) {
            for (String law : new String[] {TURNS, PASS, BUZZ}) {
                Desk d = Desk.playing(law);
                due("answer", d.answer(side, d.right(0)), NONE);
                due("nothing", d.x.nothing(side), false);
                due("no event", d.x.now(4), 0);
                due("it is at hand", d.x.now(0), 0);
            }
        }
    }

    private static void refusedWithoutMatch() {
        sentence("NONE: no MATCH; false likewise");
        Desk d = Desk.playing(BUZZ);
        d.x.call();
        due("answer behind call", d.answer(0, d.right(0)), NONE);
        due("dead behind call", d.x.dead(), false);
        Desk fresh = new Desk().withQuestions(2, 2);
        fresh.law(TURNS);
        fresh.pack(0, 1, 1, 0, 100, 9);
        due("answer ahead of begin", fresh.answer(0, fresh.right(0)), NONE);
        due("nothing ahead of begin", fresh.x.nothing(0), false);
        fresh.law(BUZZ);
        due("dead ahead of begin", fresh.x.dead(), false);
    }

    private static void refusedWhenOver() {
        sentence("NONE: it is over; false likewise");
        for (String law : new String[] {"round 1 turns right 1;", "round 1 turns right 1 pass 1;", "round 1 buzz right 1;"}) {
            Desk d = Desk.playing(law);
            d.answer(0, d.right(0));
            for (int side = 0; side < 2; side++) {
                due(law + " answer", d.answer(side, d.right(0)), NONE);
                due(law + " nothing", d.x.nothing(side), false);
            }
            due(law + " dead", d.x.dead(), false);
            d.dueNow(law, 1, 3, 1, 0, 1, 0);
        }
    }

    /** A QUESTION has two EVENTS at most, so that 48 of them can't reach 120. */
    private static void mostEvents() {
        sentence("or there are 120 EVENTS");
        Desk d = new Desk().withQuestions(48, 8);
        d.law(times("round 8 buzz right 20 wrong 20;", 6));
        due("pack", d.pack(0, 1, 6, 0, 5000, 48), 0);
        d.x.begin();
        for (int k = 0; k < 48; k++) {
            due("first of " + k, d.x.answer(1), 0);
            due("second of " + k, d.x.answer(0), 0);
        }
        d.dueNow("96 events", 48, 3, -960, -960, 96, 0);
        due("no more", d.x.answer(0), NONE);
        d.dueEvent("the last", 95, 47, 0, 0, 0, 0, -20);
        due("event 96", d.event(96, 0), NO_ELEMENT);
        due("an appeal of the first", d.x.appeal(0, true), true);
        d.dueNow("the second is void", 48, 3, -940, -920, 96, 1);
        due("an appeal of the last but one", d.x.appeal(94, true), true);
        d.dueNow("the last is void", 48, 3, -920, -880, 96, 2);
        due("finish", d.x.finish(), true);
        due("known", d.asked(47, 2), 1);
        due("not known", d.asked(46, 2), 0);
        due("1's", d.x.table(0, 0), 1);
        due("its points", d.x.table(0, 3), -880);
    }

    private static void appealRefused() {
        sentence("false: no such EVENT, none of an ANSWER, or it is so already");
        Desk d = Desk.playing("round 1 turns right 5;round 2 buzz right 5 wrong 3;");
        due("no event yet", d.x.appeal(0, true), false);
        d.x.nothing(0);
        d.x.dead();
        d.answer(0, "x");
        for (int k : new int[] {-1, 3, 119, 120, MIN, MAX}) {
            due("event " + k, d.x.appeal(k, true), false);
            due("event " + k, d.x.appeal(k, false), false);
        }
        for (int k = 0; k < 2; k++) {
            due("no answer: " + k, d.x.appeal(k, true), false);
            due("no answer: " + k, d.x.appeal(k, false), false);
        }
        due("so already", d.x.appeal(2, false), false);
        d.dueNow("as it was", 2, 1, -3, 0, 3, 0);
        due("right", d.x.appeal(2, true), true);
        due("so already", d.x.appeal(2, true), false);
        d.dueNow("right", 3, 3, 5, 0, 3, 0);
        d.x.undo();
        due("the one that went", d.x.appeal(2, false), false);
        d.x.call();
        due("no match", d.x.appeal(0, true), false);
    }

    private static void appealWhateverItTook() {
        sentence("an ANSWER is right, or not, whatever its FORM took");
        Desk d = Desk.playing(TURNS);
        due("taken", d.answer(0, d.right(0)), 1);
        due("no answer at all", d.answer(1, "?"), 0);
        due("not right", d.x.appeal(0, false), true);
        due("right", d.x.appeal(1, true), true);
        d.dueNow("by the appeals", 2, 3, -3, 5, 2, 0);
        d.dueEvent("taken", 0, 0, 0, 0, 0, 0, -3);
        d.dueEvent("no answer", 1, 1, 0, 1, 1, 0, 5);
        d.x.finish();
        due("not known", d.asked(0, 2), 0);
        due("known", d.asked(1, 2), 1);
    }

    private static void appealVoid() {
        sentence("of one that is over, or of a SIDE whose it is not: it is VOID (no points, as if it were not)");
        Desk d = Desk.playing(PASS);
        d.answer(0, "x");
        d.answer(1, d.right(0));
        d.answer(1, "x");
        d.x.nothing(0);
        d.dueNow("as played", 2, 3, -3, -1, 4, 0);
        due("the first is right", d.x.appeal(0, true), true);
        d.dueNow("one is void", 2, 3, 5, -3, 4, 1);
        d.dueEvent("void, and right", 1, 0, 0, 1, 1, 1, 0);
        d.dueEvent("not void", 2, 1, 0, 1, 0, 0, -3);
        due("the third is right", d.x.appeal(2, true), true);
        d.dueNow("nothing can be void too", 2, 3, 5, 5, 4, 2);
        d.dueEvent("void", 3, 1, 1, 0, 0, 1, 0);
        due("back", d.x.appeal(0, false), true);
        d.dueNow("not void any more", 2, 3, -3, 7, 4, 1);
        d.dueEvent("not void any more", 1, 0, 0, 1, 1, 0, 2);
        Desk buzz = Desk.playing(BUZZ);
        buzz.answer(1, "x");
        buzz.x.dead();
        due("right", buzz.x.appeal(0, true), true);
        buzz.dueEvent("dead can be void too", 1, 0, 2, NONE, 0, 1, 0);
        buzz.dueNow("and the next is at hand", 1, 2, 0, 5, 2, 1);
    }

    private static void appealOfVoid() {
        sentence("EVENT k, an ANSWER (VOID or not), is right, or not: true");
        Desk d = Desk.playing(PASS);
        d.answer(0, "x");
        d.answer(1, d.right(0));
        d.x.appeal(0, true);
        due("it is so already", d.x.appeal(1, true), false);
        due("a void one", d.x.appeal(1, false), true);
        d.dueNow("no points change", 1, 1, 5, 0, 2, 1);
        due("it is told", d.event(1, 3), 0);
        due("and again", d.x.appeal(1, true), true);
        due("and not", d.x.appeal(1, false), true);
        d.x.appeal(0, false);
        d.dueNow("it is judged by that when it is void no more", 1, 1, -3, 0, 2, 0);
    }

    private static void appealOverAsTheyStand() {
        sentence("an EVENT of a later QUESTION than the one at hand: those ahead of it are over as they stand");
        Desk d = Desk.playing(PASS);
        d.answer(0, d.right(0));
        d.answer(1, d.right(1));
        d.dueNow("as played", 2, 3, 5, 5, 2, 0);
        due("not right", d.x.appeal(0, false), true);
        d.dueNow("not passed", 2, 3, -3, 5, 2, 0);
        d.dueEvent("the later one is as it was", 1, 1, 0, 1, 1, 0, 5);
        due("undo", d.x.undo(), true);
        d.dueNow("now it is passed", 0, 1, -3, 0, 1, 0);
        due("and the other may answer", d.answer(1, d.right(0)), 1);
        d.dueNow("and so it goes on", 1, 1, -3, 2, 2, 0);
        Desk buzz = Desk.playing(BUZZ);
        buzz.answer(0, buzz.right(0));
        buzz.x.dead();
        due("not right", buzz.x.appeal(0, false), true);
        buzz.dueNow("over as it stands", 2, 3, -3, 0, 2, 0);
    }

    private static void appealOfTheLast() {
        sentence("The MATCH is over when its last QUESTION is");
        Desk d = Desk.playing("round 1 turns right 5 pass 2 wrong 3;");
        d.answer(0, d.right(0));
        due("over", d.x.now(1), 3);
        due("not right", d.x.appeal(0, false), true);
        d.dueNow("not over any more", 0, 1, -3, 0, 1, 0);
        due("not to be finished", d.x.finish(), false);
        due("the other's", d.answer(1, d.right(0)), 1);
        d.dueNow("over", 1, 3, -3, 2, 2, 0);
        due("right", d.x.appeal(0, true), true);
        d.dueNow("the last is void", 1, 3, 5, 0, 2, 1);
        due("finish", d.x.finish(), true);
        Desk none = Desk.playing("round 1 turns right 5 wrong 3;");
        none.answer(0, none.right(0));
        due("not right", none.x.appeal(0, false), true);
        none.dueNow("over without a pass", 1, 3, -3, 0, 1, 0);
        Desk buzz = Desk.playing("round 1 buzz right 5 wrong 3;");
        buzz.answer(1, buzz.right(0));
        due("not right", buzz.x.appeal(0, false), true);
        buzz.dueNow("the other's", 0, 0, 0, -3, 1, 0);
        due("dead", buzz.x.dead(), true);
        buzz.dueNow("over", 1, 3, 0, -3, 2, 0);
    }

    private static void appealOfBuzz() {
        sentence("all EVENTS are gone through anew, in order: buzz");
        Desk d = Desk.playing(BUZZ);
        d.answer(1, "x");
        d.answer(0, "x");
        d.answer(0, d.right(1));
        d.dueNow("as played", 2, 3, 2, -3, 3, 0);
        due("the second is right", d.x.appeal(1, true), true);
        d.dueNow("right by all its points", 2, 3, 10, -3, 3, 0);
        due("the first is right too", d.x.appeal(0, true), true);
        d.dueNow("so the second is void", 2, 3, 5, 5, 3, 1);
        due("the last is not", d.x.appeal(2, false), true);
        d.dueNow("at hand again", 1, 1, -3, 5, 3, 1);
    }

    private static void appealGoneThroughAnew() {
        sentence("all EVENTS are gone through anew, in order, with what they are right by");
        Desk d = Desk.playing("round 8 turns right 5 pass 2 wrong 3;");
        for (int k = 0; k < 8; k++) {
            d.answer(k % 2, "x");
            d.answer(1 - k % 2, d.right(k));
        }
        d.dueNow("as played", 8, 3, -4, -4, 16, 0);
        for (int k = 0; k < 8; k++) {
            due("right", d.x.appeal(2 * k, true), true);
            due("voids", d.x.now(5), k + 1);
        }
        d.dueNow("all first ones right", 8, 3, 20, 20, 16, 8);
        for (int k = 7; k >= 0; k--) {
            due("not right", d.x.appeal(2 * k, false), true);
            due("voids", d.x.now(5), k);
        }
        d.dueNow("as played", 8, 3, -4, -4, 16, 0);
    }

    private static void undo() {
        sentence("The latest EVENT goes (all is gone through anew): true");
        Desk d = Desk.playing("round 1 turns right 5 pass 2 wrong 3;round 1 buzz right 4 wrong 1;");
        d.answer(0, "x");
        d.answer(1, d.right(0));
        d.answer(1, "x");
        d.x.dead();
        d.dueNow("as played", 2, 3, -3, 1, 4, 0);
        due("dead", d.x.undo(), true);
        d.dueNow("not over any more", 1, 0, -3, 1, 3, 0);
        due("wrong of buzz", d.x.undo(), true);
        d.dueNow("either's", 1, 2, -3, 2, 2, 0);
        due("event 2", d.event(2, 0), NO_ELEMENT);
        due("passed", d.x.undo(), true);
        d.dueNow("the other's", 0, 1, -3, 0, 1, 0);
        due("the first", d.x.undo(), true);
        d.dueNow("as begun", 0, 0, 0, 0, 0, 0);
        Desk appealed = Desk.playing(PASS);
        appealed.answer(0, "x");
        appealed.x.nothing(1);
        appealed.x.appeal(0, true);
        due("a void one", appealed.x.undo(), true);
        appealed.dueNow("none is void", 1, 1, 5, 0, 1, 0);
        due("what an appeal made of it stays", appealed.event(0, 3), 1);
        appealed.x.undo();
        due("a new one", appealed.answer(0, "x"), 0);
        due("is judged by its form", appealed.event(0, 3), 0);
    }

    private static void undoNone() {
        sentence("false: there is none");
        Desk d = Desk.playing(TURNS);
        due("none yet", d.x.undo(), false);
        d.dueNow("as begun", 0, 0, 0, 0, 0, 0);
        d.x.nothing(0);
        due("one", d.x.undo(), true);
        due("none any more", d.x.undo(), false);
        d.x.nothing(0);
        d.x.nothing(1);
        d.x.finish();
        due("behind finish", d.x.undo(), false);
        due("it is ended still", d.x.count(5), 1);
        Desk dropped = Desk.playing(TURNS);
        dropped.x.nothing(0);
        dropped.x.call();
        due("behind call", dropped.x.undo(), false);
        dropped.x.begin();
        due("none of the match that was dropped", dropped.x.undo(), false);
        due("without a match at all", new Desk().x.undo(), false);
    }

    private static void now() {
        sentence("0 the number of the QUESTION at hand (how many there are, if it is over), 1 whose it is (0, 1, 2 either's, 3 over)");
        Desk d = Desk.playing("round 2 turns right 5;round 1 buzz right 1;");
        d.dueNow("side 0's", 0, 0, 0, 0, 0, 0);
        d.x.nothing(0);
        d.dueNow("side 1's", 1, 1, 0, 0, 1, 0);
        d.x.nothing(1);
        d.dueNow("either's", 2, 2, 0, 0, 2, 0);
        d.x.dead();
        d.dueNow("over", 3, 3, 0, 0, 3, 0);
    }

    private static void nowNone() {
        sentence("NONE for another what, or without a MATCH");
        Desk d = Desk.playing(TURNS);
        for (int what : new int[] {-1, 6, 7, MIN, MAX}) {
            due("now(" + what + ")", d.x.now(what), NONE);
        }
        d.x.nothing(0);
        d.x.nothing(1);
        d.x.finish();
        for (int what = -1; what <= 6; what++) {
            due("ended: now(" + what + ")", d.x.now(what), NONE);
        }
        Desk dropped = Desk.playing(TURNS);
        dropped.x.call();
        for (int what = -1; what <= 6; what++) {
            due("dropped: now(" + what + ")", dropped.x.now(what), NONE);
        }
    }

    private static void event() {
        sentence("2 its SIDE (NONE of DEAD); 5 points it has, or loses (below 0)");
        Desk d = Desk.playing("round 2 turns right 20 pass 7 wrong 20;round 2 buzz right 1 wrong 1;");
        d.answer(0, "x");
        d.answer(1, d.right(0));
        d.x.nothing(1);
        d.answer(0, "x");
        d.answer(1, d.right(2));
        d.x.dead();
        d.dueEvent("loses", 0, 0, 0, 0, 0, 0, -20);
        d.dueEvent("passed", 1, 0, 0, 1, 1, 0, 7);
        d.dueEvent("nothing", 2, 1, 1, 1, 0, 0, 0);
        d.dueEvent("passed, nothing is lost", 3, 1, 0, 0, 0, 0, 0);
        d.dueEvent("buzz", 4, 2, 0, 1, 1, 0, 1);
        d.dueEvent("dead", 5, 3, 2, NONE, 0, 0, 0);
    }

    private static void eventNone() {
        sentence("NoSuchElementException: there is none, or another what: event()");
        Desk d = Desk.playing(TURNS);
        due("none yet", d.event(0, 0), NO_ELEMENT);
        d.x.nothing(0);
        for (int k : new int[] {-1, 1, 119, 120, MIN, MAX}) {
            due("event " + k, d.event(k, 0), NO_ELEMENT);
        }
        for (int what : new int[] {-1, 6, MIN, MAX}) {
            due("what " + what, d.event(0, what), NO_ELEMENT);
            due("neither", d.event(1, what), NO_ELEMENT);
        }
        due("the one", d.event(0, 5), 0);
        d.x.nothing(1);
        d.x.finish();
        due("behind finish", d.event(0, 0), NO_ELEMENT);
        Desk dropped = Desk.playing(TURNS);
        dropped.x.nothing(0);
        dropped.x.call();
        due("behind call", dropped.event(0, 0), NO_ELEMENT);
        dropped.x.begin();
        due("in the match behind it", dropped.event(0, 0), NO_ELEMENT);
    }

    private static void finish() {
        sentence("false: none is on, or it is not over");
        Desk d = Desk.playing(TURNS);
        due("begun", d.x.finish(), false);
        d.x.nothing(0);
        due("half", d.x.finish(), false);
        due("none is asked", d.asked(0, 1), 0);
        due("none is seen", d.x.seen(0, 0), false);
        due("it is on", d.x.now(0), 1);
        d.x.nothing(1);
        due("over", d.x.finish(), true);
        due("none is on", d.x.finish(), false);
        due("asked once", d.asked(0, 1), 1);
        due("ended once", d.x.count(5), 1);
        due("matches of a team", d.x.table(0, 2), 1);
        Desk dropped = Desk.playing(TURNS);
        dropped.x.nothing(0);
        dropped.x.nothing(1);
        dropped.x.call();
        due("one that was dropped", dropped.x.finish(), false);
        due("a new one", new Desk().x.finish(), false);
    }

    private static void finishKnown() {
        sentence("each of its QUESTIONS is ASKED once more, KNOWN if an ANSWER of it that is not VOID is right, and SEEN by both");
        Desk d = Desk.playing("round 2 buzz right 0;round 4 turns right 0 pass 0;");
        d.x.dead();
        d.answer(1, "x");
        d.answer(0, d.right(1));
        d.x.nothing(0);
        d.x.nothing(1);
        d.answer(1, "x");
        d.answer(0, "x");
        d.answer(0, d.right(4));
        d.answer(1, "x");
        d.answer(0, d.right(5));
        d.x.appeal(8, true);
        d.x.finish();
        int[] known = {0, 1, 0, 0, 1, 1};
        for (int q = 0; q < 6; q++) {
            due("asked " + q, d.asked(q, 1), 1);
            due("known " + q, d.asked(q, 2), known[q]);
            due("teams " + q, d.asked(q, 5), 2);
            due("by the first " + q, d.x.seen(0, q), true);
            due("by the second " + q, d.x.seen(1, q), true);
        }
        due("not asked", d.asked(6, 1), 0);
        due("not known", d.asked(6, 2), 0);
        due("not seen", d.asked(6, 5), 0);
        Desk undone = Desk.playing("round 1 buzz right 1;");
        undone.answer(0, "x");
        undone.answer(1, undone.right(0));
        undone.x.undo();
        undone.x.undo();
        undone.x.dead();
        undone.x.finish();
        due("not by an answer that went", undone.asked(0, 2), 0);
    }

    private static void callDropped() {
        sentence("The MATCH that is on is dropped, as if it had not begun (its PACK stays): true; false: none is on");
        due("a new one", new Desk().x.call(), false);
        Desk d = Desk.playing(TURNS);
        d.answer(0, d.right(0));
        d.answer(1, d.right(1));
        due("one that is over", d.x.call(), true);
        due("none is on", d.x.call(), false);
        due("its pack", d.x.count(3), 2);
        due("its first", d.x.packed(0), 0);
        for (int q = 0; q < 2; q++) {
            due("not asked", d.asked(q, 1), 0);
            due("not known", d.asked(q, 2), 0);
            due("not seen", d.asked(q, 5), 0);
        }
        due("no match of a team", d.x.table(0, 2), 0);
        due("no points", d.x.table(0, 3), 0);
        due("none ended", d.x.count(5), 0);
        due("the law may change", d.law(BUZZ), 2);
        due("and it may begin", d.x.begin(), true);
        d.dueNow("anew", 0, 2, 0, 0, 0, 0);
        d.x.dead();
        d.x.dead();
        d.x.finish();
        due("none is on behind finish", d.x.call(), false);
        due("what is ended stays", d.x.count(5), 1);
    }

    private static String state(Desk d) {
        StringBuilder s = new StringBuilder();
        for (int what = 0; what < 7; what++) {
            s.append(d.x.count(what)).append(' ').append(d.x.now(what)).append(' ');
        }
        for (int k = 0; k < 3; k++) {
            s.append(d.x.packed(k)).append(' ').append(d.asked(k, 1)).append(' ').append(d.x.table(k, 0)).append(' ');
            s.append(d.event(k, 3)).append(' ').append(d.event(k, 5)).append(' ');
        }
        return s.append(d.x.fault()).toString();
    }

    private static void throwsChangeNothing() {
        sentence("A call that throws changes nothing");
        Desk d = Desk.playing(PASS);
        d.question(0, "2..1");
        d.answer(0, "x");
        d.answer(1, d.right(0));
        d.text("abc");
        String before = state(d);
        due("event", d.event(2, 0), NO_ELEMENT);
        due("event", d.event(0, 6), NO_ELEMENT);
        due("asked", d.asked(12, 0), NO_ELEMENT);
        due("asked", d.asked(0, 6), NO_ELEMENT);
        due("pack", d.pack(0, 0, 1, 0, 0, 1), Desk.THROWS_ARGUMENT);
        due("pack", d.pack(2, 3, 1, 0, 0, 1), Desk.THROWS_STATE);
        due("all is as it was", state(d).equals(before), true);
    }

    /** A MATCH of two buzz QUESTIONS: SIDE 0 has or loses (below 0) the points of the first, SIDE 1 those of the second. */
    private static void result(Desk d, int a, int b, int pointsA, int pointsB) {
        int[] points = {pointsA, pointsB};
        String law = "";
        for (int own : points) {
            law += "round 1 buzz right " + Math.abs(own) + " wrong " + Math.abs(own) + ";";
        }
        d.law(law);
        due("pack of a result", d.pack(a, b, 48, 0, 5000, 1000), 0);
        due("begin of a result", d.x.begin(), true);
        for (int side = 0; side < 2; side++) {
            boolean loses = points[side] < 0;
            due("answer of a result", d.answer(side, loses ? "x" : d.right(side)), loses ? 0 : 1);
            if (loses) {
                due("dead behind a loss", d.x.dead(), true);
            }
        }
        due("finish of a result", d.x.finish(), true);
    }

    /** The place in the TABLE, as told by the TEAM there. */
    private static int placeOf(Desk d, int team) {
        for (int k = 0; k < 12; k++) {
            if (d.x.table(k, 0) == team) {
                return k;
            }
        }
        return NONE;
    }

    private static void dueLine(Desk d, int place, int... wants) {
        for (int what = 0; what < wants.length; what++) {
            due("table(" + place + ", " + what + ")", d.x.table(place, what), wants[what]);
        }
    }

    private static void given() {
        sentence("a MATCH that is ENDED gives 2 to the TEAM with more points, 1 to both if they have as many");
        Desk more = new Desk().withQuestions(8, 8);
        result(more, 4, 9, 8, 7);
        dueLine(more, 0, 4, 2, 1, 8, 7);
        dueLine(more, 11, 9, 0, 1, 7, 8);
        result(more, 5, 4, -1, -2);
        dueLine(more, placeOf(more, 5), 5, 2, 1, -1, -2);
        dueLine(more, placeOf(more, 4), 4, 2, 2, 6, 6);
        Desk same = new Desk().withQuestions(8, 8);
        result(same, 4, 9, 7, 7);
        dueLine(same, 0, 4, 1, 1, 7, 7);
        dueLine(same, 1, 9, 1, 1, 7, 7);
        result(same, 9, 4, 0, 0);
        dueLine(same, 0, 4, 2, 2, 7, 7);
        dueLine(same, 1, 9, 2, 2, 7, 7);
        result(same, 9, 4, -3, -3);
        dueLine(same, 0, 4, 3, 3, 4, 4);
        dueLine(same, 1, 9, 3, 3, 4, 4);
    }

    private static void tableOrder() {
        sentence("TABLE: TEAMS by what they were given");
        Desk given = new Desk().withQuestions(12, 8);
        result(given, 0, 1, 20, 0);
        result(given, 7, 8, 1, 0);
        result(given, 7, 9, 0, 0);
        due("more given, for fewer points", given.x.table(0, 0), 7);
        due("then the one with 2", given.x.table(1, 0), 0);
        due("then the one with 1", given.x.table(2, 0), 9);
        due("the last has the least lead", given.x.table(11, 0), 1);

        sentence("then by points had less points of those against them");
        Desk lead = new Desk().withQuestions(12, 8);
        result(lead, 0, 1, 9, 8);
        result(lead, 2, 3, 3, 1);
        result(lead, 4, 5, -1, -9);
        int[] wants = {4, 2, 0, 6, 7, 8, 9, 10, 11, 1, 3, 5};
        for (int k = 0; k < 12; k++) {
            due("place " + k, lead.x.table(k, 0), wants[k]);
        }

        sentence("then by points had, greater ones first");
        Desk had = new Desk().withQuestions(12, 8);
        result(had, 0, 1, 3, 2);
        result(had, 2, 3, 9, 8);
        result(had, 4, 5, -1, -2);
        int[] byPoints = {2, 0, 4, 6, 7, 8, 9, 10, 11, 3, 1, 5};
        for (int k = 0; k < 12; k++) {
            due("place " + k, had.x.table(k, 0), byPoints[k]);
        }

        sentence("then by numbers");
        Desk numbers = new Desk();
        for (int k = 0; k < 12; k++) {
            due("place " + k, numbers.x.table(k, 0), k);
        }
        Desk same = new Desk().withQuestions(12, 8);
        result(same, 11, 8, 4, 4);
        result(same, 3, 10, 4, 4);
        int[] wantSame = {3, 8, 10, 11, 0, 1, 2, 4, 5, 6, 7, 9};
        for (int k = 0; k < 12; k++) {
            due("place " + k, same.x.table(k, 0), wantSame[k]);
        }
    }

    private static void tableNone() {
        sentence("NONE: no such place or what");
        Desk d = new Desk().withQuestions(4, 4);
        result(d, 0, 11, 2, 1);
        dueLine(d, 0, 0, 2, 1, 2, 1);
        dueLine(d, 11, 11, 0, 1, 1, 2);
        for (int k : new int[] {-1, 12, MIN, MAX}) {
            for (int what = 0; what < 5; what++) {
                due("table(" + k + ", " + what + ")", d.x.table(k, what), NONE);
            }
        }
        for (int what : new int[] {-1, 5, MIN, MAX}) {
            for (int k = 0; k < 12; k++) {
                due("table(" + k + ", " + what + ")", d.x.table(k, what), NONE);
            }
            due("neither", d.x.table(12, what), NONE);
        }
    }

    private static void mostPoints() {
        sentence("2, 3 points of SIDES 0, 1: the most that a MATCH can have");
        Desk d = new Desk();
        for (int q = 0; q < 48; q++) {
            d.question(q % 8, "1");
        }
        d.law(times("round 8 buzz right 20 wrong 20;", 6));
        d.pack(0, 1, 6, 0, 5000, 48);
        d.x.begin();
        for (int k = 0; k < 48; k++) {
            d.x.feed(0x31202020, 0x20202020, 0x20202020, 0x20202020, 0x20202020);
            due("right", d.x.answer(0), 1);
        }
        d.dueNow("960", 48, 3, 960, 0, 48, 0);
        due("finish", d.x.finish(), true);
        dueLine(d, 0, 0, 2, 1, 960, 0);
        dueLine(d, 11, 1, 0, 1, 0, 960);
    }
}
