/** For each promise of the document: ordinary inputs, the edges that it names, and wrong inputs. */
public final class PromiseTest extends Checks {
    public static void main(String[] args) {
        promise1NewObject();
        promise2Feed();
        promise3End();
        promise4Question();
        promise4Faults();
        promise4Longest();
        promise5Takes();
        promise5Answers();
        promise6Strike();
        promise7Asked();
        promise8Seen();
        promise9Law();
        promise10Fault();
        promise11Pack();
        promise11Looks();
        promise12Packed();
        promise13Begin();
        promise14Answer();
        promise15Nothing();
        promise16Dead();
        promise17Appeal();
        promise18Undo();
        promise19Now();
        promise20Event();
        promise21Finish();
        promise22Call();
        promise23Table();
        promise24Count();
        tapeIsEmptyThen();
        close("PromiseTest");
    }

    private static void promise1NewObject() {
        Desk d = new Desk();
        for (int what = 0; what <= 6; what++) {
            due("new: count(" + what + ")", d.x.count(what), 0);
            due("new: now(" + what + ")", d.x.now(what), NONE);
        }
        due("new: fault", d.x.fault(), 0);
        due("new: packed(0)", d.x.packed(0), NONE);
        due("new: event(0, 0)", d.event(0, 0), NO_ELEMENT);
        due("new: asked(0, 0)", d.asked(0, 0), NO_ELEMENT);
        due("new: pack", d.pack(0, 1, 1, 0, 0, 1), Desk.THROWS_STATE);
        due("new: begin", d.x.begin(), false);
        due("new: undo", d.x.undo(), false);
        due("new: dead", d.x.dead(), false);
        due("new: nothing", d.x.nothing(0), false);
        due("new: answer", d.answer(0, "a"), NONE);
        due("new: appeal", d.x.appeal(0, true), false);
        for (int k = 0; k < 12; k++) {
            due("new: table(" + k + ", 0)", d.x.table(k, 0), k);
            due("new: table(" + k + ", 1)", d.x.table(k, 1), 0);
        }
    }

    private static void promise2Feed() {
        Desk d = new Desk();
        for (int n = 1; n <= 13; n++) {
            due("feed " + n, d.x.feed(-1, 0, 7, 8, 9), 20 * n);
        }
        due("feed over 260", d.x.feed(1, 1, 1, 1, 1), NONE);
        due("nothing came", d.x.count(6), 260);
        due("cut to 240", d.x.end(240), true);
        due("feed to just 260", d.x.feed(1, 1, 1, 1, 1), 260);
        due("cut to 241", d.x.end(241), true);
        due("feed to 261", d.x.feed(1, 1, 1, 1, 1), NONE);
        due("still 241", d.x.count(6), 241);

        Desk order = new Desk();
        order.x.feed(0x61626364, 0x65666768, 0x696a6b6c, 0x20202020, 0x206d6e6f);
        due("all twenty bytes", order.x.count(6), 20);
        due("the form of them", order.x.question(0), 0);
        due("the order of bytes and numbers", order.takes(0, "abcdefghijkl mno"), 1);
        due("a byte above 127 is no token", order.question(0, "ab" + (char) 0xe1), -3);
    }

    private static void promise3End() {
        Desk d = new Desk();
        due("end(0) of an empty tape", d.x.end(0), true);
        due("end(1) of an empty tape", d.x.end(1), false);
        d.x.feed(0x61616161, 0, 0, 0, 0);
        due("end(21) of 20", d.x.end(21), false);
        due("end(-1)", d.x.end(-1), false);
        due("end of the lowest number", d.x.end(Integer.MIN_VALUE), false);
        due("end of the highest number", d.x.end(Integer.MAX_VALUE), false);
        due("the tape is as it was", d.x.count(6), 20);
        due("end(20) of 20", d.x.end(20), true);
        due("end(3)", d.x.end(3), true);
        due("three bytes", d.x.count(6), 3);
        due("end(4) behind that", d.x.end(4), false);
        due("feed goes behind what is left", d.x.feed(0x62626262, 0, 0, 0, 0), 23);
        due("end(7)", d.x.end(7), true);
        due("a form", d.x.question(0), 0);
        due("the first bytes stayed", d.takes(0, "aaabbbb"), 1);
        d.text("1..9");
        due("end(2)", d.x.end(2), true);
        due("what was cut is not read", d.x.question(0), -2);
    }

    private static void promise4Question() {
        Desk d = new Desk();
        due("theme -1", d.question(-1, "a"), -300);
        due("theme 8", d.question(8, "a"), -300);
        due("theme 8 and a fault", d.question(8, "]"), -300);
        due("theme of the highest number", d.question(Integer.MAX_VALUE, "a"), -300);
        for (int k = 0; k < 60; k++) {
            due("question " + k, d.question(k % 8, "a"), k);
        }
        due("a 61st", d.question(0, "a"), -300);
        due("a 61st with a fault", d.question(0, "]"), -300);
        due("60 there are", d.x.count(0), 60);

        Desk faulty = new Desk();
        due("a faulty form", faulty.question(0, "a ]"), -3);
        due("is no question", faulty.x.count(0), 0);
        due("so the next is 0", faulty.question(7, "a"), 0);
        due("of its theme", faulty.asked(0, 0), 7);
    }

    private static void promise4Faults() {
        for (String form : new String[] {"a", "0", "999999", "abcdefghijkl", "1..1", "1 .. 2", "01..1", "a b|c", " a ",
                "[a]", "(a)", "{a}", "{a,b|c,[d],(e),{f}}", "((((((a))))))", "[({[({a})]})]", "(a)(b)(c)(d)(e)(f)(g)(h)",
                "1 2..3 4", "1..2 3..4", "[a|b]c", "a|(b|c)d", "{a|b,c}"}) {
            good(form);
        }
        fault("", 0, 1);
        fault("   ", 3, 1);
        fault("a | ", 4, 1);
        fault("|", 0, 1);
        fault("a||b", 2, 1);
        fault("]", 0, 1);
        fault("a)", 1, 1);
        fault("(a]", 2, 1);
        fault("[a)", 2, 1);
        fault("{a]", 2, 1);
        fault("{a", 2, 1);
        fault("()", 1, 1);
        fault("{}", 1, 1);
        fault("{,a}", 1, 1);
        fault("{a,,b}", 3, 1);
        fault("a,b", 1, 1);
        fault("(a,b)", 2, 1);
        fault("{(a,b)}", 3, 1);
        fault("{a|,b}", 3, 1);
        fault("a..b", 1, 1);
        fault("..1", 0, 1);
        fault("1..", 3, 1);
        fault("1..a", 3, 1);
        fault("1..(", 3, 1);
        fault("((((((1..(", 9, 1);
        fault("1..2..3", 4, 1);
        fault("(1)..2", 3, 1);
        fault("1.2", 1, 1);
        fault("1. .2", 1, 1);
        fault("1..2.", 4, 1);
        fault("a;", 1, 1);
        fault("aB", 1, 1);
        fault("a\tb", 1, 1);
        fault("a\0", 1, 1);
        fault("1a", 0, 1);
        fault("(a1b)", 1, 1);
        fault("1234567", 0, 1);
        fault("abcdefghijklm", 0, 1);
        fault("5..4", 3, 2);
        fault("5.. 04", 4, 2);
        fault("10..9 ]", 4, 2);
        fault("(((((((", 6, 3);
        fault("[([([( {a}", 7, 3);
        fault("a [{([({ (", 9, 3);
        fault("{a,b,c,d,e,f}", 10, 3);
        fault("{a,b,c,d,e,}", 10, 3);
        fault("{a,b,c,d,e ,$}", 11, 3);
        fault("{a,b,c,d,{a,b,c,d,e,f}}", 19, 3);
        good("{{a,b,c,d,e},b,c,d,{a,b,c,d,e}}");
        good("{a,b,c,d,e}{a,b,c,d,e}");
        fault("a $ 5..4", 2, 1);
        fault("5..4 $", 3, 2);
    }

    private static void promise4Longest() {
        String blanks = times(" ", 199);
        good(times("a ", 100));
        good(blanks + "a");
        good("a" + times(" ", 199));
        fault(times("a ", 100) + " ", 200, 1);
        fault(blanks + "ab", 200, 1);
        fault(blanks + " a", 200, 1);
        fault(times(" ", 201), 200, 1);
        fault(times(" ", 260), 200, 1);
        fault(blanks + "abcdefghijklm", 199, 1);
        fault(blanks + "abcdefghijkl", 200, 1);
        fault(blanks + "1234567", 199, 1);
        fault(times(" ", 195) + "9..  8", 200, 1);
        fault(times(" ", 196) + "10..9", 200, 1);
        fault(times(" ", 196) + "5..4999", 200, 1);
        fault(times(" ", 196) + "5..4", 199, 2);
        fault(times(" ", 196) + "5..4 ", 199, 2);
        fault(times(" ", 198) + "1..2", 200, 1);
        fault(times(" ", 198) + "1.", 199, 1);
        fault("(" + times(" ", 199), 200, 1);
        fault("(" + times(" ", 250), 200, 1);
        fault("a]" + times(" ", 250), 1, 1);
        fault("(((((((" + times(" ", 250), 6, 3);
        fault("a" + times(" ", 199) + "]", 200, 1);
        good(times("[a]", 66) + "|b");
        fault(times("[a]", 66) + "|(", 200, 1);
    }

    private static void promise5Takes() {
        taken("red", "red", 1);
        taken("red", "re", 0);
        taken("red", "redd", 0);
        taken("red", "7", 0);
        taken("7", "7", 1);
        taken("7", "007", 1);
        taken("007", "7", 1);
        taken("7", "8", 0);
        taken("7", "g", 0);
        taken("3..5", "2", 0);
        taken("3..5", "3", 1);
        taken("3..5", "0005", 1);
        taken("3..5", "6", 0);
        taken("0..999999", "a", 0);
        taken("a b", "a b", 1);
        taken("a b", "b a", 0);
        taken("a b", "a", 0);
        taken("a b", "a b b", 0);
        taken("a|b c", "b c", 1);
        taken("a|b c", "a c", 0);
        taken("[a]b", "b", 1);
        taken("[a]b", "a b", 1);
        taken("[a]b", "a a b", 0);
        taken("[a]", "a", 1);
        taken("(a|b)c", "b c", 1);
        taken("(a|b)c", "a", 0);
        taken("(a|a b)(b c|c)", "a b c", 1);
        taken("(a|a b)(b c|c)", "a c", 1);
        taken("(a|a b)(b c|c)", "a b b c", 1);
        taken("{a,b}", "b a", 1);
        taken("{a,b}", "a b", 1);
        taken("{a,b}", "a a", 0);
        taken("{a,b}", "a", 0);
        taken("{a b,c}", "a c b", 0);
        taken("{[a],b,[a b]}", "a b b", 1);
        taken("{[a],b,[a b]}", "b a b a", 1);
        taken("{[a],b,[a b]}", "a b a b a", 0);
        taken("{a,b,c,d,e}", "e c a d b", 1);
        taken("{a,b,c,d,e}", "e c a d d", 0);
        taken("{{a,b},{c,d}}", "d c b a", 1);
        taken("{{a,b},{c,d}}", "d a c b", 0);
        taken("{1..9,1..5,3}", "3 9 5", 1);
        taken("{1..9,1..5,3}", "9 9 3", 0);
        taken("{a|b,c}", "c b", 1);
        taken("{a}", "a", 1);
        taken("x{a,b}[c]", "x b a c", 1);
        taken("abcdefghijkl", "abcdefghijkl", 1);
        taken("[({[({a})]})]z", "a z", 1);
        taken("[({[({a})]})]z", "z", 1);
        taken("[({[({a})]})]z", "a a z", 0);
        taken(times("[a]", 20), times("a ", 20), 1);
        taken(times("[a]", 19), times("a ", 20), 0);
        taken("a|a|b a|b", "b a", 1);
        taken("[[a]b]c", "a c", 0);
        taken("[a](a|b)c", "a c", 1);
        taken("(((((x[a]|y)))))", "x", 1);
        taken("(((((x[a]|y)))))", "x a", 1);
        taken("(((((x[a]|y)))))", "y a", 0);
        taken(times("[a]", 66) + "|b", "b", 1);
        taken(times("[a]", 66) + "|b", times("a ", 20), 1);
        taken(times("[a]", 66) + "|b", "a b", 0);
        taken("{[a],[b],[c],[d],[e]}{[a],[b],[c],[d],[e]}f", "e d c b a a b c d e f", 1);
        taken("{[a],[b],[c],[d],[e]}{[a],[b],[c],[d],[e]}f", "e d c b a a b c d d f", 0);
    }

    private static void promise5Answers() {
        Desk d = new Desk();
        d.question(0, "a" + times("[a]", 24) + times("[2]", 2));
        due("no such question", d.takes(1, "a"), NONE);
        due("question -1", d.takes(-1, "a"), NONE);
        due("the highest number", d.takes(Integer.MAX_VALUE, "a"), NONE);
        due("empty", d.takes(0, ""), NONE);
        due("blanks", d.takes(0, "   "), NONE);
        due("capitals", d.takes(0, "A"), NONE);
        due("a sign", d.takes(0, "a|a"), NONE);
        due("dots", d.takes(0, "1..2"), NONE);
        due("a semicolon", d.takes(0, "a;"), NONE);
        due("a zero byte", d.takes(0, "a\0"), NONE);
        due("no blank between", d.takes(0, "a2"), NONE);
        due("13 letters", d.takes(0, "abcdefghijklm"), NONE);
        due("7 digits", d.takes(0, "1234567"), NONE);
        due("20 tokens", d.takes(0, times("a ", 20)), 1);
        due("21 tokens", d.takes(0, times("a ", 21)), NONE);
        due("200 bytes", d.takes(0, times(" ", 199) + "a"), 1);
        due("201 bytes", d.takes(0, "a" + times(" ", 200)), NONE);
        due("a token over the end", d.takes(0, times(" ", 199) + "aa"), NONE);
        due("blanks around", d.takes(0, "  a  2 "), 1);
        due("struck or not", d.x.strike(0, true), true);
        due("it is taken all the same", d.takes(0, "a"), 1);
    }

    private static void promise6Strike() {
        Desk d = new Desk().withQuestions(3, 3);
        d.law("round 1 turns right 1;");
        due("strike -1", d.x.strike(-1, true), false);
        due("strike 3", d.x.strike(3, true), false);
        due("strike 1 off", d.x.strike(1, false), false);
        due("strike 1 on", d.x.strike(1, true), true);
        due("strike 1 on again", d.x.strike(1, true), false);
        due("it is struck", d.asked(1, 4), 1);
        due("others are not", d.asked(0, 4), 0);
        due("strike 1 off", d.x.strike(1, false), true);
        due("it is not", d.asked(1, 4), 0);
        due("pack", d.pack(0, 1, 1, 0, 100, 9), 0);
        due("begin", d.x.begin(), true);
        due("while a match is on", d.x.strike(2, true), false);
        due("nothing is struck", d.asked(2, 4), 0);
        d.x.nothing(0);
        due("even if it is over", d.x.strike(2, true), false);
        due("finish", d.x.finish(), true);
        due("behind the match", d.x.strike(2, true), true);
    }

    private static void promise7Asked() {
        Desk d = Desk.playing("round 3 turns right 1;");
        d.answer(0, d.right(0));
        d.answer(1, "no");
        d.answer(0, d.right(2));
        d.x.appeal(1, true);
        d.x.appeal(2, false);
        due("not while the match is on", d.asked(0, 1), 0);
        due("finish", d.x.finish(), true);
        int[][] wants = {{0, 1, 1, 100, 0, 2}, {1, 1, 1, 100, 0, 2}, {2, 1, 0, 0, 0, 2}, {3, 0, 0, 50, 0, 0}};
        for (int q = 0; q < wants.length; q++) {
            for (int what = 0; what <= 5; what++) {
                due("asked(" + q + ", " + what + ")", d.asked(q, what), wants[q][what]);
            }
        }
        due("asked(0, 6)", d.asked(0, 6), NO_ELEMENT);
        due("asked(0, -1)", d.asked(0, -1), NO_ELEMENT);
        due("asked(12, 0)", d.asked(12, 0), NO_ELEMENT);
        due("asked(-1, 0)", d.asked(-1, 0), NO_ELEMENT);

        Desk hundredths = new Desk().withQuestions(1, 1);
        hundredths.law("round 1 turns right 1;");
        for (int m = 0; m < 3; m++) {
            due("pack " + m, hundredths.pack(2 * m, 2 * m + 1, 1, 0, 100, 9), 0);
            hundredths.x.begin();
            hundredths.answer(0, m == 1 ? "no" : hundredths.right(0));
            hundredths.x.finish();
        }
        due("asked three times", hundredths.asked(0, 1), 3);
        due("known twice", hundredths.asked(0, 2), 2);
        due("two thirds, cut", hundredths.asked(0, 3), 66);
        due("six teams", hundredths.asked(0, 5), 6);
    }

    private static void promise8Seen() {
        Desk d = new Desk().withQuestions(4, 4);
        d.law("round 2 turns right 1;");
        due("pack", d.pack(3, 11, 4, 0, 5000, 9), 0);
        d.x.begin();
        d.x.nothing(0);
        d.x.nothing(1);
        due("not seen while it is on", d.x.seen(3, 0), false);
        d.x.finish();
        for (int team = -1; team <= 12; team++) {
            for (int q = -1; q <= 4; q++) {
                boolean want = (team == 3 || team == 11) && (q == 0 || q == 1);
                due("seen(" + team + ", " + q + ")", d.x.seen(team, q), want);
            }
        }
        due("team 35 is none", d.x.seen(35, 0), false);
        due("team of the lowest number", d.x.seen(Integer.MIN_VALUE, 0), false);
    }

    private static void promise9Law() {
        Desk d = new Desk();
        due("one round", d.law("round 8 turns right 20 pass 0 wrong 20;"), 8);
        due("blanks", d.law("  round   08turns "), -11);
        due("blanks between", d.law("  round   08 turns right 00 ;  "), 8);
        String longest = times("round 8 buzz right 0;", 6);
        due("six rounds", d.law(longest), 48);
        due("six rounds and blanks", d.law(longest + times(" ", 200 - longest.length())), 48);
        due("over 200 bytes", d.law(longest + times(" ", 201 - longest.length())), -201);
        due("a 'round' over the edge", d.law("round 1 buzz right 1;" + times(" ", 176) + "round 1 buzz"), -201);
        due("a seventh at the edge", d.law(longest + times(" ", 199 - longest.length()) + "round"), -200);
        due("its kind", d.x.fault(), 3);
        due("48 are wanted still", d.x.count(1), 48);
        due("six rounds still", d.x.count(2), 6);
        lawFault("", 0, 1);
        lawFault("   ", 3, 1);
        lawFault("round", 5, 1);
        lawFault(";", 0, 1);
        lawFault("rounds 1", 0, 1);
        lawFault("sound 1", 0, 1);
        lawFault("rounc 1", 0, 1);
        lawFault("1 round", 0, 1);
        lawFault("round turns", 6, 1);
        lawFault("round 0 turns", 6, 2);
        lawFault("round 9 turns", 6, 2);
        lawFault("round 1 turn", 8, 1);
        lawFault("round 1 right", 8, 1);
        lawFault("round 1 buzz 1", 13, 1);
        lawFault("round 1 buzz right wrong", 19, 1);
        lawFault("round 1 buzz right 21;", 19, 2);
        lawFault("round 1 buzz right 1 pass 1;", 21, 1);
        lawFault("round 1 turns right 1 pass;", 26, 1);
        lawFault("round 1 turns right 1 pass 21;", 27, 2);
        lawFault("round 1 turns right 1 pass 1 wrong 21;", 35, 2);
        lawFault("round 1 turns right 1 wrong 1 pass 1;", 30, 1);
        lawFault("round 1 turns right 1 pass 1 pass 1;", 29, 1);
        lawFault("round 1 buzz right 1 wrong 1 wrong 1;", 29, 1);
        lawFault("round 1 buzz right 1", 20, 1);
        lawFault("round 1 buzz right 1;;", 21, 1);
        lawFault("round 1 buzz right 1; x", 22, 1);
        lawFault("round 1 buzz right 1|", 20, 1);
        lawFault("round 1.. buzz", 7, 1);
        lawFault("Round 1", 0, 1);
        lawFault("round 1000000 buzz", 6, 1);
        lawFault(longest + "round", 126, 3);
        lawFault(longest + "turns", 126, 1);
        lawFault(longest + ";", 126, 1);

        Desk on = Desk.playing("round 2 turns right 1;");
        due("while a match is on", on.law("round 3 turns right 1;"), -300);
        due("the law stays", on.x.count(1), 2);
        on.x.call();
        due("behind it", on.law("round 3 turns right 1;"), 3);
    }

    private static void promise10Fault() {
        Desk d = new Desk();
        due("ahead of any", d.x.fault(), 0);
        d.question(0, "(");
        due("1", d.x.fault(), 1);
        d.question(9, "a");
        due("-300 leaves it", d.x.fault(), 1);
        d.takes(0, "]");
        due("takes leaves it", d.x.fault(), 1);
        d.question(0, "9..8");
        due("2", d.x.fault(), 2);
        d.question(0, "(((((((");
        due("3", d.x.fault(), 3);
        d.question(0, "a");
        due("0 without one", d.x.fault(), 0);
        d.law("round 9");
        due("2 of a law", d.x.fault(), 2);
        d.law("round 1 turns right 1;");
        due("0 of a law", d.x.fault(), 0);
        d.question(0, "(");
        d.pack(0, 1, 1, 0, 100, 9);
        d.x.begin();
        d.law("round 1 turns right 1;");
        due("-300 of a law leaves it", d.x.fault(), 1);
    }

    private static void promise11Pack() {
        Desk d = new Desk().withQuestions(6, 2);
        due("arguments are asked ahead of the state", d.pack(0, 0, 1, 0, 0, 1), Desk.THROWS_ARGUMENT);
        due("no law", d.pack(0, 1, 1, 0, 0, 1), Desk.THROWS_STATE);
        d.law("round 3 turns right 1;");
        due("pack", d.pack(4, 2, 2, 0, 1000, 100), 0);
        int[][] wrong = {{-1, 0, 1, 0, 0, 1}, {0, -1, 1, 0, 0, 1}, {12, 0, 1, 0, 0, 1}, {0, 12, 1, 0, 0, 1},
            {3, 3, 1, 0, 0, 1}, {0, 1, 0, 0, 0, 1}, {0, 1, 49, 0, 0, 1}, {0, 1, 1, 1, 0, 1}, {0, 1, 1, 0, 0, 0},
            {0, 1, 1, 0, 0, 100001}, {0, 1, -1, 0, 0, 1}, {0, 1, 1, 0, 0, -1},
            {0, 1, 1, Integer.MAX_VALUE, Integer.MIN_VALUE, 1}};
        for (int[] w : wrong) {
            due("wrong " + java.util.Arrays.toString(w), d.pack(w[0], w[1], w[2], w[3], w[4], w[5]), Desk.THROWS_ARGUMENT);
        }
        due("a throw leaves the pack", d.x.count(3), 3);
        due("and the looks", d.x.count(4), 3);
        due("the widest bounds", d.pack(11, 0, 48, Integer.MIN_VALUE, Integer.MAX_VALUE, 100000), 0);
        due("hards of 50 each: 149 is below", d.pack(0, 1, 3, 0, 149, 1000), 1);
        due("hards of 50 each: 151 is above", d.pack(0, 1, 3, 151, 1000, 1000), 1);
        due("hards of 50 each: 150", d.pack(0, 1, 3, 150, 150, 1000), 0);
        due("two themes, one of each", d.pack(0, 1, 1, 0, 1000, 1000), 1);
        due("no pack then", d.x.count(3), 0);
        due("two of each", d.pack(0, 1, 2, 0, 1000, 1000), 0);
        due("begin", d.x.begin(), true);
        due("a match is on", d.pack(0, 1, 2, 0, 1000, 1000), Desk.THROWS_STATE);
        due("wrong ones even then", d.pack(0, 1, 2, 0, 1000, 0), Desk.THROWS_ARGUMENT);
        d.answer(0, d.right(0));
        d.x.nothing(1);
        d.answer(0, d.right(2));
        d.x.finish();
        due("one team saw 0 to 2", d.pack(1, 5, 3, 0, 1000, 1000), 0);
        due("so 3 is the first", d.x.packed(0), 3);
        due("the other saw them too", d.pack(5, 0, 3, 0, 1000, 1000), 0);
        due("so 3 is the first", d.x.packed(0), 3);
        due("others did not", d.pack(5, 6, 3, 0, 1000, 1000), 0);
        due("so 0 is the first", d.x.packed(0), 0);
        due("hards 100, 0, 100, 50, 50, 50: 100 in all", d.pack(5, 6, 3, 100, 100, 1000), 0);
        due("1, then 3", d.x.packed(1), 3);
        due("begins with 1", d.x.packed(0), 1);
        d.x.strike(1, true);
        due("without 1", d.pack(5, 6, 3, 0, 149, 1000), 1);
        due("without 1 the first", d.pack(5, 6, 3, 0, 200, 1000), 0);
        due("is 0", d.x.packed(0), 0);
        due("then 3, for 250 were too many", d.x.packed(1), 3);
    }

    private static void promise11Looks() {
        Desk d = new Desk().withQuestions(5, 5);
        d.law("round 2 turns right 1;");
        due("spent with 1", d.pack(0, 1, 1, 0, 1000, 1), 2);
        due("1 look", d.x.count(4), 1);
        due("no pack", d.x.count(3), 0);
        due("2 are enough", d.pack(0, 1, 1, 0, 1000, 2), 0);
        due("2 looks", d.x.count(4), 2);
        // Every pair and every first one is put in once: 5 + 10.
        due("none", d.pack(0, 1, 1, 101, 1000, 15), 1);
        due("15 looks", d.x.count(4), 15);
        due("spent with 14", d.pack(0, 1, 1, 101, 1000, 14), 2);
        due("14 looks", d.x.count(4), 14);
        due("a throw leaves them", d.pack(0, 1, 1, 101, 1000, 0), Desk.THROWS_ARGUMENT);
        due("14 looks still", d.x.count(4), 14);
        // No look is spared where too few are left: all subsets are gone through.
        d.law("round 8 turns right 1;");
        due("8 of 5", d.pack(0, 1, 1, 0, 1000, 31), 1);
        due("31 looks", d.x.count(4), 31);
        due("8 of 5, spent", d.pack(0, 1, 1, 0, 1000, 30), 2);
        for (int q = 0; q < 5; q++) {
            d.x.strike(q, true);
        }
        due("none that may come", d.pack(0, 1, 1, 0, 1000, 1), 1);
        due("no looks", d.x.count(4), 0);

        Desk themes = new Desk().withQuestions(6, 2);
        themes.law("round 2 turns right 1;");
        // Firsts 0 to 5, and behind each those of the other theme: 6 + (3 + 2 + 2 + 1 + 1).
        due("full themes are passed by", themes.pack(0, 1, 1, 101, 1000, 100), 1);
        due("without a look", themes.x.count(4), 15);

        Desk most = new Desk().withQuestions(60, 8);
        most.law(times("round 8 buzz right 0;", 6));
        due("48 of 60", most.pack(0, 1, 48, 0, 4800, 48), 0);
        due("the last", most.x.packed(47), 47);
        due("48 of 60 that are too easy", most.pack(0, 1, 48, 0, 2399, 100), 2);
        due("looks behind the first 48", most.x.count(4), 100);
        due("at most 5 of a theme: 40 in all", most.pack(0, 1, 5, 0, 4800, 100000), 2);
        due("all looks", most.x.count(4), 100000);
    }

    private static void promise12Packed() {
        Desk d = new Desk().withQuestions(5, 5);
        d.x.strike(0, true);
        d.x.strike(2, true);
        d.law("round 3 turns right 1;");
        due("no pack yet", d.x.packed(0), NONE);
        due("pack", d.pack(0, 1, 1, 0, 1000, 100), 0);
        int[] wants = {NONE, 1, 3, 4, NONE};
        for (int k = -1; k <= 3; k++) {
            due("packed(" + k + ")", d.x.packed(k), wants[k + 1]);
        }
        due("the lowest number", d.x.packed(Integer.MIN_VALUE), NONE);
        due("the highest number", d.x.packed(Integer.MAX_VALUE), NONE);
        d.x.begin();
        due("while the match is on", d.x.packed(2), 4);
        d.x.call();
        due("spent", d.pack(0, 1, 1, 0, 1000, 2), 2);
        due("none behind that", d.x.packed(0), NONE);
    }

    private static void promise13Begin() {
        Desk d = new Desk().withQuestions(4, 4);
        d.law("round 2 turns right 1;");
        due("no pack", d.x.begin(), false);
        d.pack(7, 3, 1, 0, 1000, 100);
        d.law("round 1 turns right 1;");
        due("another number", d.x.begin(), false);
        d.law("round 1 turns right 5;round 1 turns right 6;");
        d.x.strike(1, true);
        due("struck since", d.x.begin(), false);
        d.x.strike(1, false);
        d.x.strike(0, true);
        due("the first struck since", d.x.begin(), false);
        d.x.strike(0, false);
        d.x.strike(3, true);
        due("one that is not of the pack", d.x.begin(), true);
        due("one is on", d.x.begin(), false);
        d.answer(0, d.right(0));
        due("the new law", d.x.now(2), 5);
        d.answer(1, d.right(1));
        due("and its second round", d.x.now(3), 6);
        due("finish", d.x.finish(), true);
        due("side 0 was the first team", d.x.table(11, 0), 7);
        due("side 1 the second", d.x.table(0, 0), 3);
        due("seen since", d.x.begin(), false);
        due("the pack is there", d.x.count(3), 2);
        due("none for 3 again", d.pack(3, 4, 1, 0, 1000, 100), 1);
        due("no pack", d.x.begin(), false);
        due("for others", d.pack(0, 1, 1, 0, 1000, 100), 0);
        due("begin", d.x.begin(), true);
    }

    private static void promise14Answer() {
        Desk d = Desk.playing("round 2 turns right 3 wrong 2;round 2 turns right 4 pass 1 wrong 2;round 2 buzz right 5 wrong 3;");
        due("of the other side", d.answer(1, d.right(0)), NONE);
        due("of no side", d.answer(2, d.right(0)), NONE);
        due("of side -1", d.answer(-1, d.right(0)), NONE);
        d.dueNow("nothing came", 0, 0, 0, 0, 0, 0);
        due("right", d.answer(0, d.right(0)), 1);
        d.dueNow("right", 1, 1, 3, 0, 1, 0);
        due("not right", d.answer(1, d.right(0)), 0);
        d.dueNow("no pass: over", 2, 0, 3, -2, 2, 0);
        due("no answer at all", d.answer(0, "??"), 0);
        d.dueNow("passed", 2, 1, 1, -2, 3, 0);
        due("of the side that had it", d.answer(0, d.right(2)), NONE);
        due("passed and right", d.answer(1, d.right(2)), 1);
        d.dueNow("the points of pass", 3, 1, 1, -1, 4, 0);
        due("wrong", d.answer(1, "x"), 0);
        due("wrong too, nothing is lost", d.answer(0, ""), 0);
        d.dueNow("buzz: either's", 4, 2, 1, -3, 6, 0);
        due("buzz of no side", d.answer(2, d.right(4)), NONE);
        due("buzz of side 1", d.answer(1, "x"), 0);
        d.dueNow("the other's", 4, 0, 1, -6, 7, 0);
        due("not side 1's again", d.answer(1, d.right(4)), NONE);
        due("wrong of the other", d.answer(0, "x"), 0);
        d.dueNow("loses the same", 5, 2, -2, -6, 8, 0);
        due("right", d.answer(0, d.right(5)), 1);
        d.dueNow("over", 6, 3, 3, -6, 9, 0);
        due("it is over", d.answer(0, "x"), NONE);
        due("it is over for 1", d.answer(1, "x"), NONE);
        d.x.finish();
        due("no match", d.answer(0, "x"), NONE);

        Desk buzz = Desk.playing("round 2 buzz right 5 wrong 3;");
        buzz.answer(0, "x");
        due("the other is right", buzz.answer(1, buzz.right(0)), 1);
        buzz.dueNow("with all its points", 1, 2, -3, 5, 2, 0);
        due("a long text is no answer", buzz.answer(0, buzz.right(1) + times(" ", 200)), 0);
        Desk zero = Desk.playing("round 2 turns right 2 pass 0;");
        zero.answer(0, "x");
        zero.dueNow("'pass 0' passes, and nothing is lost without 'wrong'", 0, 1, 0, 0, 1, 0);
    }

    private static void promise15Nothing() {
        Desk d = Desk.playing("round 2 turns right 3 wrong 2;round 2 turns right 4 pass 1 wrong 2;round 1 buzz right 5 wrong 3;");
        due("of the other side", d.x.nothing(1), false);
        due("of no side", d.x.nothing(2), false);
        due("of side -1", d.x.nothing(-1), false);
        due("nothing", d.x.nothing(0), true);
        d.dueNow("over, and nothing is lost", 1, 1, 0, 0, 1, 0);
        due("nothing", d.x.nothing(1), true);
        due("with pass", d.x.nothing(0), true);
        d.dueNow("the other's", 2, 1, 0, 0, 3, 0);
        due("not its own again", d.x.nothing(0), false);
        due("nothing of the other", d.x.nothing(1), true);
        d.dueNow("over", 3, 1, 0, 0, 4, 0);
        d.answer(1, "x");
        due("behind a wrong one", d.x.nothing(0), true);
        d.dueNow("buzz", 4, 2, 0, -2, 6, 0);
        due("can't come with buzz", d.x.nothing(0), false);
        due("for either", d.x.nothing(1), false);
        d.answer(0, "x");
        due("nor for the second", d.x.nothing(1), false);
        d.answer(1, "x");
        due("over", d.x.nothing(0), false);
        due("over for 1", d.x.nothing(1), false);
        d.x.call();
        due("no match", d.x.nothing(0), false);
    }

    private static void promise16Dead() {
        Desk d = Desk.playing("round 1 turns right 3 pass 1;round 3 buzz right 5 wrong 3;");
        due("can't come with turns", d.x.dead(), false);
        d.x.nothing(0);
        due("nor behind a pass", d.x.dead(), false);
        d.x.nothing(1);
        due("dead", d.x.dead(), true);
        d.dueNow("over", 2, 2, 0, 0, 3, 0);
        d.answer(1, "x");
        due("dead for the second", d.x.dead(), true);
        d.dueNow("over", 3, 2, 0, -3, 5, 0);
        due("the last", d.x.dead(), true);
        d.dueNow("the match is over", 4, 3, 0, -3, 6, 0);
        due("over", d.x.dead(), false);
        d.x.finish();
        due("no match", d.x.dead(), false);
    }

    private static void promise17Appeal() {
        Desk d = Desk.playing("round 2 turns right 3 pass 1 wrong 2;round 2 buzz right 5 wrong 4;");
        d.answer(0, "x");
        d.answer(1, d.right(0));
        d.answer(1, d.right(1));
        d.answer(0, "x");
        d.answer(1, d.right(2));
        d.x.dead();
        d.dueNow("as played", 4, 3, -6, 9, 6, 0);
        due("no such event", d.x.appeal(6, true), false);
        due("event -1", d.x.appeal(-1, true), false);
        due("so already", d.x.appeal(0, false), false);
        due("dead", d.x.appeal(5, true), false);
        due("it is right", d.x.appeal(0, true), true);
        d.dueNow("what was behind it is void", 4, 3, -1, 8, 6, 1);
        d.dueEvent("the first", 0, 0, 0, 0, 1, 0, 3);
        d.dueEvent("the void one", 1, 0, 0, 1, 1, 1, 0);
        due("a void one, so already", d.x.appeal(1, true), false);
        due("a void one", d.x.appeal(1, false), true);
        d.dueNow("as it was", 4, 3, -1, 8, 6, 1);
        due("right by right", d.x.appeal(3, true), true);
        d.dueNow("buzz", 4, 3, 8, 3, 6, 2);
        due("back", d.x.appeal(0, false), true);
        d.dueNow("not void any more", 4, 3, 3, 3, 6, 1);
        d.dueEvent("but not right", 1, 0, 0, 1, 0, 0, 0);
        due("a question ahead of a later one stays over", d.x.appeal(2, false), true);
        d.dueNow("as it stands", 4, 3, 3, -2, 6, 1);
        d.x.finish();
        due("no match", d.x.appeal(0, true), false);

        Desk last = Desk.playing("round 1 turns right 3 pass 1 wrong 2;");
        last.answer(0, last.right(0));
        last.dueNow("over", 1, 3, 3, 0, 1, 0);
        due("not right", last.x.appeal(0, false), true);
        last.dueNow("not over any more", 0, 1, -2, 0, 1, 0);
        due("so it can't be finished", last.x.finish(), false);
        due("it is the other's", last.answer(1, last.right(0)), 1);
        last.dueNow("over again", 1, 3, -2, 1, 2, 0);
        last.x.appeal(0, true);
        last.dueNow("void", 1, 3, 3, 0, 2, 1);
        due("nothing of none", last.x.appeal(2, true), false);
        due("finish", last.x.finish(), true);
        due("known", last.asked(0, 2), 1);

        Desk voided = Desk.playing("round 1 turns right 3 pass 1 wrong 2;");
        voided.x.nothing(0);
        due("nothing is no answer", voided.x.appeal(0, true), false);
        Desk unknown = Desk.playing("round 1 buzz right 3;");
        unknown.answer(1, "x");
        unknown.answer(0, unknown.right(0));
        unknown.x.appeal(0, true);
        unknown.x.appeal(0, false);
        unknown.x.appeal(1, false);
        unknown.x.finish();
        due("no answer of it is right", unknown.asked(0, 2), 0);
    }

    private static void promise18Undo() {
        Desk d = Desk.playing("round 2 turns right 3 pass 1 wrong 2;");
        due("there is none", d.x.undo(), false);
        d.answer(0, "x");
        d.answer(1, d.right(0));
        d.answer(1, d.right(1));
        d.dueNow("as played", 2, 3, -2, 4, 3, 0);
        due("undo", d.x.undo(), true);
        d.dueNow("one less", 1, 1, -2, 1, 2, 0);
        d.x.appeal(0, true);
        d.dueNow("void", 1, 1, 3, 0, 2, 1);
        due("a void one goes", d.x.undo(), true);
        d.dueNow("two less", 1, 1, 3, 0, 1, 0);
        due("what it was judged stays", d.event(0, 3), 1);
        due("the last goes", d.x.undo(), true);
        d.dueNow("as begun", 0, 0, 0, 0, 0, 0);
        due("there is none any more", d.x.undo(), false);
        due("it is not right by the appeal of another", d.answer(0, "x"), 0);
        d.dueEvent("it is a new one", 0, 0, 0, 0, 0, 0, -2);
        d.x.call();
        due("no match", d.x.undo(), false);
        d.x.begin();
        due("none of the match ahead", d.x.undo(), false);
    }

    private static void promise19Now() {
        Desk d = Desk.playing("round 1 buzz right 2;round 2 turns right 1;");
        d.dueNow("at first either's", 0, 2, 0, 0, 0, 0);
        due("now(6)", d.x.now(6), NONE);
        due("now(-1)", d.x.now(-1), NONE);
        d.answer(1, d.right(0));
        d.dueNow("question 1 of the match is side 1's", 1, 1, 0, 2, 1, 0);
        d.answer(1, d.right(1));
        d.dueNow("question 2 is side 0's", 2, 0, 0, 3, 2, 0);
        d.x.nothing(0);
        d.dueNow("over", 3, 3, 0, 3, 3, 0);
        d.x.finish();
        for (int what = 0; what <= 5; what++) {
            due("ended: now(" + what + ")", d.x.now(what), NONE);
        }
    }

    private static void promise20Event() {
        Desk d = Desk.playing("round 1 turns right 7 pass 1 wrong 2;round 2 buzz right 5 wrong 4;");
        due("none yet", d.event(0, 0), NO_ELEMENT);
        d.x.nothing(0);
        d.answer(1, d.right(0));
        d.answer(1, "x");
        d.answer(0, d.right(1));
        d.x.dead();
        d.dueEvent("nothing", 0, 0, 1, 0, 0, 0, 0);
        d.dueEvent("passed", 1, 0, 0, 1, 1, 0, 1);
        d.dueEvent("wrong", 2, 1, 0, 1, 0, 0, -4);
        d.dueEvent("right", 3, 1, 0, 0, 1, 0, 5);
        d.dueEvent("dead", 4, 2, 2, NONE, 0, 0, 0);
        due("event 5", d.event(5, 0), NO_ELEMENT);
        due("event -1", d.event(-1, 0), NO_ELEMENT);
        due("event 120", d.event(120, 0), NO_ELEMENT);
        due("what 6", d.event(0, 6), NO_ELEMENT);
        due("what -1", d.event(0, -1), NO_ELEMENT);
        d.x.undo();
        due("undone", d.event(4, 0), NO_ELEMENT);
        d.x.dead();
        d.x.finish();
        due("no match", d.event(0, 0), NO_ELEMENT);
    }

    private static void promise21Finish() {
        Desk d = Desk.playing("round 2 turns right 3 pass 2;");
        due("not over", d.x.finish(), false);
        d.answer(0, d.right(0));
        due("not over yet", d.x.finish(), false);
        d.answer(1, "x");
        d.answer(0, d.right(1));
        due("over", d.x.finish(), true);
        due("none is on", d.x.finish(), false);
        due("one is ended", d.x.count(5), 1);
        due("asked", d.asked(1, 1), 1);
        due("known by the second", d.asked(1, 2), 1);
        due("seen", d.x.seen(1, 1), true);
        due("not asked", d.asked(2, 1), 0);
        due("table: first", d.x.table(0, 0), 0);
        due("2 for more points", d.x.table(0, 1), 2);
        due("points had", d.x.table(0, 3), 5);
        due("0 for less", d.x.table(11, 1), 0);
        due("the last", d.x.table(11, 0), 1);
    }

    private static void promise22Call() {
        Desk d = Desk.playing("round 2 turns right 3 pass 2;");
        d.answer(0, d.right(0));
        due("call", d.x.call(), true);
        due("none is on", d.x.call(), false);
        due("no match", d.x.now(0), NONE);
        due("no events", d.event(0, 0), NO_ELEMENT);
        due("none ended", d.x.count(5), 0);
        due("not asked", d.asked(0, 1), 0);
        due("not seen", d.x.seen(0, 0), false);
        due("its pack stays", d.x.count(3), 2);
        due("it can begin anew", d.x.begin(), true);
        d.dueNow("anew", 0, 0, 0, 0, 0, 0);
        d.x.nothing(0);
        d.x.nothing(1);
        d.x.nothing(1);
        d.x.nothing(0);
        due("one that is over", d.x.call(), true);
        due("none ended", d.x.count(5), 0);
    }

    /** A match of one question; points of both sides, as 'right', 'wrong' and 'pass' allow. */
    private static void result(Desk d, int a, int b, int pointsA, int pointsB) {
        StringBuilder law = new StringBuilder("round 1 buzz right " + Math.abs(pointsA) + " wrong " + Math.abs(pointsA) + ";");
        law.append("round 1 buzz right " + Math.abs(pointsB) + " wrong " + Math.abs(pointsB) + ";");
        d.law(law.toString());
        due("pack of a result", d.pack(a, b, 48, 0, 5000, 1000), 0);
        due("begin of a result", d.x.begin(), true);
        d.answer(0, pointsA < 0 ? "x" : d.right(0));
        if (pointsA < 0) {
            d.x.dead();
        }
        d.answer(1, pointsB < 0 ? "x" : d.right(1));
        if (pointsB < 0) {
            d.x.dead();
        }
        due("finish of a result", d.x.finish(), true);
    }

    private static void dueTable(Desk d, int k, int... wants) {
        for (int what = 0; what < wants.length; what++) {
            due("table(" + k + ", " + what + ")", d.x.table(k, what), wants[what]);
        }
    }

    private static void promise23Table() {
        Desk d = new Desk().withQuestions(20, 8);
        result(d, 9, 4, 3, 3);
        result(d, 2, 7, 5, 5);
        result(d, 11, 0, 6, 4);
        result(d, 5, 11, 1, -2);
        dueTable(d, 0, 5, 2, 1, 1, -2);
        dueTable(d, 1, 11, 2, 2, 4, 5);
        dueTable(d, 2, 2, 1, 1, 5, 5);
        dueTable(d, 3, 7, 1, 1, 5, 5);
        dueTable(d, 4, 4, 1, 1, 3, 3);
        dueTable(d, 5, 9, 1, 1, 3, 3);
        dueTable(d, 6, 1, 0, 0, 0, 0);
        dueTable(d, 7, 3, 0, 0, 0, 0);
        dueTable(d, 10, 10, 0, 0, 0, 0);
        dueTable(d, 11, 0, 0, 1, 4, 6);
        due("no place 12", d.x.table(12, 0), NONE);
        due("no place -1", d.x.table(-1, 0), NONE);
        due("no place of the highest number", d.x.table(Integer.MAX_VALUE, 0), NONE);
        due("no what 5", d.x.table(0, 5), NONE);
        due("no what -1", d.x.table(0, -1), NONE);
    }

    private static void promise24Count() {
        Desk d = new Desk().withQuestions(9, 3);
        d.law("round 2 turns right 3;round 3 buzz right 1;");
        due("pack", d.pack(0, 1, 48, 0, 5000, 1000), 0);
        d.x.feed(1, 2, 3, 4, 5);
        int[] wants = {9, 5, 2, 5, 5, 0, 20};
        for (int what = 0; what < wants.length; what++) {
            due("count(" + what + ")", d.x.count(what), wants[what]);
        }
        due("count(7)", d.x.count(7), NONE);
        due("count(-1)", d.x.count(-1), NONE);
        d.law("round 1 turns right 3;");
        due("the pack is not the law's", d.x.count(3), 5);
        due("the law's", d.x.count(1), 1);
    }

    private static void tapeIsEmptyThen() {
        Desk d = new Desk();
        d.question(0, "a");
        due("behind question", d.x.count(6), 0);
        d.question(0, "(");
        due("behind a fault", d.x.count(6), 0);
        d.question(8, "a");
        due("behind -300", d.x.count(6), 0);
        d.takes(0, "a");
        due("behind takes", d.x.count(6), 0);
        d.takes(9, "a");
        due("behind takes of none", d.x.count(6), 0);
        d.law("round 1 turns right 1;");
        due("behind law", d.x.count(6), 0);
        d.law("round");
        due("behind a law's fault", d.x.count(6), 0);
        d.answer(0, "a");
        due("behind answer without a match", d.x.count(6), 0);
        d.pack(0, 1, 1, 0, 100, 10);
        d.x.begin();
        d.law("round");
        due("behind a law's -300", d.x.count(6), 0);
        d.answer(1, "a");
        due("behind an answer that can't come", d.x.count(6), 0);
        d.answer(0, "a");
        due("behind an answer", d.x.count(6), 0);
    }
}
