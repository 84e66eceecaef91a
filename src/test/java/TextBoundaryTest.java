/** The tape, FORMS, ANSWERS and LAWS: each sentence of the document that names a boundary case. */
public final class TextBoundaryTest extends Checks {
    private static final String ROUND = "round 8 buzz right 0;";

    public static void main(String[] args) {
        tape();
        feedHighestFirst();
        feedFull();
        endOfTape();
        bytes();
        wordsAndNumbers();
        runs();
        blanks();
        dots();
        rowsAndParts();
        firstAlongTheText();
        theEnd();
        byte200();
        readWhole();
        numberBelow();
        withinSix();
        sixthForm();
        answerSizes();
        tapeOfAnswers();
        values();
        rows();
        maybe();
        anyOrder();
        questionNumbers();
        questionRefused();
        takesNone();
        lawRounds();
        lawNumbers();
        lawPoints();
        lawPass();
        lawSeventh();
        lawLongest();
        lawSigns();
        lawStays();
        faultKinds();
        close("TextBoundaryTest");
    }

    /** The text, with so many blanks ahead that it begins at this place. */
    private static String at(int place, String text) {
        return times(" ", place) + text;
    }

    /** The text, with blanks behind to have so many bytes. */
    private static String wide(String text, int bytes) {
        return text + times(" ", bytes - text.length());
    }

    private static void tape() {
        sentence("an empty tape");
        Desk d = new Desk();
        due("bytes", d.x.count(6), 0);
        due("a form", d.x.question(0), -1);
        due("a law", d.x.law(), -1);
        due("its kind", d.x.fault(), 1);
        due("end(0)", d.x.end(0), true);
        due("end(1)", d.x.end(1), false);

        sentence("The tape (empty then, here and below)");
        d.question(0, "a");
        due("behind question", d.x.count(6), 0);
        d.question(0, "]");
        due("behind a fault", d.x.count(6), 0);
        d.question(8, "a");
        due("behind no such theme", d.x.count(6), 0);
        d.takes(0, "a");
        due("behind takes", d.x.count(6), 0);
        d.takes(0, "?");
        due("behind no answer", d.x.count(6), 0);
        d.takes(1, "a");
        due("behind no question", d.x.count(6), 0);
        d.law("round 0");
        due("behind a law's fault", d.x.count(6), 0);
        d.law("round 1 buzz right 1;");
        due("behind law", d.x.count(6), 0);
        d.answer(0, "a");
        due("behind an answer without a match", d.x.count(6), 0);
        d.pack(0, 1, 1, 0, 100, 1);
        d.x.begin();
        d.law("round 1 buzz right 1;");
        due("behind a law that is refused", d.x.count(6), 0);
        d.answer(2, "a");
        due("behind an answer of no side", d.x.count(6), 0);
        d.answer(0, "a");
        due("behind an answer", d.x.count(6), 0);
        d.answer(0, "a");
        due("behind an answer when it is over", d.x.count(6), 0);
    }

    private static void feedHighestFirst() {
        sentence("Twenty bytes come behind the tape, of each number the highest first");
        for (int place = 0; place < 20; place++) {
            Desk d = new Desk();
            int[] n = {0x20202020, 0x20202020, 0x20202020, 0x20202020, 0x20202020};
            n[place / 4] = n[place / 4] & ~(255 << 24 - place % 4 * 8) | 255 << 24 - place % 4 * 8;
            due("feed", d.x.feed(n[0], n[1], n[2], n[3], n[4]), 20);
            due("byte 255 is at place " + place, d.x.question(0), -1 - place);
        }
        Desk d = new Desk();
        due("the lowest and the highest number", d.x.feed(MIN, MAX, -1, 0, 1), 20);
        due("first again", d.x.feed(0x61202020, 0x20202020, 0x20202020, 0x20202020, 0x20202020), 40);
        due("byte 128 is first", d.x.question(0), -1);
    }

    private static void feedFull() {
        sentence("how many it has; NONE, and none come, if it would have more than 260");
        for (int n = 235; n <= 260; n++) {
            Desk d = new Desk().text(wide("a", 260));
            d.x.end(n);
            boolean fits = n <= 240;
            due("feed behind " + n, d.x.feed(-1, -1, -1, -1, -1), fits ? n + 20 : NONE);
            due("bytes behind " + n, d.x.count(6), fits ? n + 20 : n);
        }
        Desk d = new Desk().text(wide("a", 200));
        d.x.feed(0, 0, 0, 0, 0);
        d.x.feed(0, 0, 0, 0, 0);
        d.x.feed(0, 0, 0, 0, 0);
        for (int i = 0; i < 3; i++) {
            due("a full tape", d.x.feed(0x62626262, 0x62626262, 0, 0, 0), NONE);
        }
        due("is as full as it was", d.x.count(6), 260);
        d.x.end(200);
        due("and its text too", d.x.question(0), 0);
        due("which is a", d.takes(0, "a"), 1);
    }

    private static void endOfTape() {
        sentence("The tape has its first n bytes alone: true");
        Desk d = new Desk().text("ab cd");
        due("end(4)", d.x.end(4), true);
        due("four bytes", d.x.count(6), 4);
        due("end(4) again", d.x.end(4), true);
        due("a form", d.x.question(0), 0);
        due("of the first four", d.takes(0, "ab c"), 1);
        due("not of five", d.takes(0, "ab cd"), 0);
        d.text(times("a", 260));
        due("end of all 260", d.x.end(260), true);
        due("all 260", d.x.count(6), 260);
        due("end(0)", d.x.end(0), true);
        due("none", d.x.count(6), 0);

        sentence("false, if it has not so many, or n is below 0");
        d.text("abc");
        for (int n : new int[] {4, 20, 260, 261, MAX, -1, -3, -260, MIN}) {
            due("end(" + n + ") of three", d.x.end(n), false);
            due("three still", d.x.count(6), 3);
        }
        d.text(times("a", 260));
        due("end(261) of 260", d.x.end(261), false);
        due("260 still", d.x.count(6), 260);
    }

    private static void bytes() {
        sentence("WORDS: small letters; NUMBERS: digits; SIGNS; what is not as told is no TOKEN");
        Desk answers = new Desk();
        answers.question(0, "a|a a");
        Desk doubled = new Desk();
        doubled.question(0, "a|a a");
        for (int b = 0; b < 256; b++) {
            String text = String.valueOf((char) b);
            boolean isLetter = "abcdefghijklmnopqrstuvwxyz".contains(text);
            boolean isDigit = "0123456789".contains(text);
            boolean opens = " ([{".contains(text);
            due("byte " + b + " as a form", new Desk().question(0, text), isLetter || isDigit ? 0 : opens ? -2 : -1);
            Desk one = b < 128 ? answers : doubled;
            one.x.feed(b << 24, 0, 0, 0, 0);
            one.x.end(1);
            due("byte " + b + " as an answer", one.x.takes(0), b == 'a' ? 1 : isLetter || isDigit ? 0 : NONE);
            int behind = isLetter ? -20 : isDigit || b == ' ' ? -22 : b == ';' ? 1 : -21;
            due("byte " + b + " in a law", new Desk().law("round 1 buzz right 1" + text), behind);
        }
    }

    private static void wordsAndNumbers() {
        sentence("WORDS: small letters, 1 to 12");
        good("z");
        good(times("z", 12));
        fault(times("z", 13), 0, 1);
        fault("a " + times("z", 13), 2, 1);
        fault(times("z", 100), 0, 1);
        taken(times("z", 12), times("z", 12), 1);
        taken(times("z", 12), times("z", 11), 0);
        taken(times("z", 12), times("z", 11) + "y", 0);
        taken("a", times("z", 13), NONE);
        taken("a", "aa", 0);
        taken("aa", "a", 0);
        lawFault("round 1 buzz " + times("r", 13), 13, 1);

        sentence("NUMBERS: 1 to 6 digits");
        good("0");
        good("000000");
        good("999999");
        fault("0000000", 0, 1);
        fault("1000000", 0, 1);
        fault("1..1000000", 3, 1);
        fault(times("9", 100), 0, 1);
        taken("999999", "999999", 1);
        taken("0", "000000", 1);
        taken("0", "0000000", NONE);
        // 2 ^ 32: a number that wraps around would be 0.
        taken("0", "4294967296", NONE);
        fault("4294967296", 0, 1);
        goodLaw("round 000001 buzz right 000020;", 1, 1);
        lawFault("round 0000001 buzz right 1;", 6, 1);
        lawFault("round 4294967297 buzz right 1;", 6, 1);
    }

    private static void runs() {
        sentence("A WORD, NUMBER goes on as long as small letters and digits do");
        fault("a1", 0, 1);
        fault("1a", 0, 1);
        fault("b a1b", 2, 1);
        fault("1..2a", 3, 1);
        fault("1a..2", 0, 1);
        fault(times("a", 12) + "1", 0, 1);
        fault("123456a", 0, 1);
        taken("a", "a1", NONE);
        taken("1", "1a", NONE);
        lawFault("round 1buzz right 1;", 6, 1);
        lawFault("round1 buzz right 1;", 0, 1);
        lawFault("round 1 buzz right1;", 13, 1);
        goodLaw("round 1 buzz right 1;round 1 turns right 1;", 2, 2);
    }

    private static void blanks() {
        sentence("TOKENS, with blanks (32) between them or not");
        good("[a](b){c,d}1..2|e");
        good(" [ a ] ( b ) { c , d } 1 .. 2 | e ");
        taken("1  ..  2", "2", 1);
        taken("[a](b){c,d}1..2|e", "b d c 2", 1);
        for (char c : new char[] {0, 9, 10, 13, 31, 33, 160, 255}) {
            fault("a" + c + "b", 1, 1);
            taken("a b", "a" + c + "b", NONE);
        }
        goodLaw("round 1 turns right 1 pass 2 wrong 3;", 1, 1);
        goodLaw("   round   1   turns   right   1   ;   ", 1, 1);
        lawFault("round\t1 buzz right 1;", 5, 1);
    }

    private static void dots() {
        sentence("SIGNS | [ ] ( ) { } , ..");
        fault("1.2", 1, 1);
        fault("1.", 1, 1);
        fault("1. .2", 1, 1);
        fault("1...2", 3, 1);
        fault("1....2", 3, 1);
        fault("1..2..3", 4, 1);
        fault("1..2 .", 5, 1);
        fault(".", 0, 1);
        fault("..", 0, 1);
        fault("a..2", 1, 1);
        fault("1|..2", 2, 1);
        fault("[1]..2", 3, 1);
        // Bytes that were cut off stay behind the end, and are not to be read.
        Desk d = new Desk().text("1..2");
        d.x.end(2);
        due("half of the sign", d.x.question(0), -2);
    }

    private static void rowsAndParts() {
        sentence("FORM: ROW { '|' ROW }. ROW: PART { PART }");
        fault("", 0, 1);
        fault(" ", 1, 1);
        fault("|", 0, 1);
        fault("|a", 0, 1);
        fault("a|", 2, 1);
        fault("a||a", 2, 1);
        good("a|a");
        good(times("a|", 99) + "aa");

        sentence("PART: [ FORM ] | ( FORM ) | '{' FORM { , FORM } '}'");
        fault("[]", 1, 1);
        fault("()", 1, 1);
        fault("{}", 1, 1);
        fault("{,}", 1, 1);
        fault("{a,}", 3, 1);
        fault("{a,,a}", 3, 1);
        fault("a,a", 1, 1);
        fault("[a,a]", 2, 1);
        fault("(a,a)", 2, 1);
        fault("{[a,a]}", 3, 1);
        good("{[a],a}");
        fault("[a)", 2, 1);
        fault("(a}", 2, 1);
        fault("{a]", 2, 1);
        fault("([a)]", 3, 1);
        fault("a]", 1, 1);
        fault("a)", 1, 1);
        fault("a}", 1, 1);
        fault("[a]]", 3, 1);
        fault("1..[2]", 3, 1);
        fault("1..|", 3, 1);
        fault("(1..)", 4, 1);
    }

    private static void firstAlongTheText() {
        sentence("FAULTS, the first along the text");
        fault("2..1 ] (((((((", 3, 2);
        fault("] 2..1", 0, 1);
        fault("((((((( 2..1 ]", 6, 3);
        fault("{a,b,c,d,e,f,2..1}", 10, 3);
        fault("{a,b,c,d,e ] ,f}", 11, 1);
        fault("((((((a]", 7, 1);
        lawFault("round 9 buss", 6, 2);
        lawFault("round 1 buss right 21", 8, 1);
        lawFault(times(ROUND, 6) + "round 9", 126, 3);
    }

    private static void theEnd() {
        sentence("one that can't come (at it; the end, at how many bytes there are)");
        fault("(a", 2, 1);
        fault("(a   ", 5, 1);
        fault("1..", 3, 1);
        fault("1..  ", 5, 1);
        fault("{a,", 3, 1);
        fault("a|  ", 4, 1);
        fault(wide("", 199), 199, 1);
        fault(wide("", 200), 200, 1);
        fault(wide("(a", 200), 200, 1);
        fault(wide("1..", 200), 200, 1);
        lawFault("round", 5, 1);
        lawFault("round 1", 7, 1);
        lawFault("round 1 buzz", 12, 1);
        lawFault("round 1 turns right", 19, 1);
        lawFault("round 1 turns right 1", 21, 1);
        lawFault("round 1 turns right 1 pass", 26, 1);
        lawFault("round 1 turns right 1 pass 1", 28, 1);
        lawFault("round 1 turns right 1 pass 1 wrong", 34, 1);
        lawFault("round 1 turns right 1 pass 1 wrong 1", 36, 1);
        lawFault("round 1 turns right 1 pass 1 wrong 1  ", 38, 1);
        lawFault(wide("round 1 buzz right 1", 200), 200, 1);
    }

    private static void byte200() {
        sentence("Texts of at most 200 bytes");
        good(wide("a", 200));
        good(at(199, "a"));
        good(at(188, times("a", 12)));
        good(times("[a]", 66) + "bb");
        good(times("(a)", 65) + "a|(a)");
        // As many TOKENS as bytes, and the end behind them.
        fault(times("(a)", 66) + "((", 200, 1);
        fault(wide("a", 201), 200, 1);
        fault(wide("a", 260), 200, 1);
        fault(at(200, "a"), 200, 1);

        sentence("byte 200, if there are more and no FAULT is ahead");
        fault(at(200, "]"), 200, 1);
        fault(wide("a", 230) + "]", 200, 1);
        fault(wide("", 201), 200, 1);
        fault(wide("(a", 201), 200, 1);
        fault(wide("1..", 201), 200, 1);
        fault(at(199, "]a"), 199, 1);
        fault(at(196, "2..1a"), 199, 1);
        fault(at(196, "2..1 a"), 199, 2);
        fault(at(193, "((((((( "), 199, 3);
        fault(at(194, "((((((("), 200, 1);
        fault("]" + wide("", 259), 0, 1);
    }

    private static void readWhole() {
        sentence("TOKENS that begin ahead of it are read whole");
        fault(at(199, times("a", 12)), 200, 1);
        fault(at(199, times("a", 13)), 199, 1);
        fault(at(190, times("a", 12)), 200, 1);
        fault(at(190, times("a", 13)), 190, 1);
        fault(at(199, "123456"), 200, 1);
        fault(at(199, "1234567"), 199, 1);
        fault(at(199, "a1"), 199, 1);
        fault(at(198, "1..2"), 200, 1);
        fault(at(198, "a..2"), 199, 1);
        fault(at(198, "1. ."), 199, 1);
        fault(at(196, "5..49"), 200, 1);
        fault(at(195, "50..49"), 199, 2);
        fault(at(195, "50..490"), 200, 1);
        fault(at(189, "{a,b,c,d,e,f}"), 199, 3);
        fault(at(190, "{a,b,c,d,e,f}"), 200, 1);
        lawFault(at(180, "round 1 buzz right 21;"), 199, 2);
        lawFault(at(180, "round 1 buzz right 20;"), 200, 1);
        lawFault(at(179, "round 1 buzz right 1;") + "x", 200, 1);
        lawFault(wide(times(ROUND, 6), 199) + "round 1", 199, 3);
        lawFault(wide(times(ROUND, 6), 199) + "rounds", 199, 1);
        lawFault(wide(times(ROUND, 6), 200) + "round", 200, 1);
    }

    private static void numberBelow() {
        sentence("2 a NUMBER behind .. that is below the one ahead (at it)");
        fault("1..0", 3, 2);
        good("1..1");
        good("0..0");
        fault("999999..999998", 8, 2);
        good("999999..999999");
        good("0..999999");
        fault("000002 .. 1", 10, 2);
        fault("2..000001", 3, 2);
        good("2..000002");
        good("9..10");
        fault("10..9", 4, 2);
        good("5 4..6 3");
        fault("{1..2,(3..2)}", 10, 2);
    }

    private static void withinSix() {
        sentence("3 a [ ( { within six others (at the sign)");
        for (String pair : new String[] {"[]", "()", "{}"}) {
            String open = pair.substring(0, 1);
            String shut = pair.substring(1);
            good(times(open, 6) + "a" + times(shut, 6));
            fault(times(open, 7) + "a" + times(shut, 7), 6, 3);
            fault("([{([{" + open + "a", 6, 3);
            fault("{[({[(b " + open, 8, 3);
            good("(((((" + open + "a" + shut + open + "a" + shut + ")))))" + open + "a" + shut);
            fault("((((((1.." + open, 9, 1);
        }
        good("((((((a))))))((((((a))))))");
        fault("((((((a))))))(((((((a)))))))", 19, 3);
        good("{a,b,(((((c)))))}");
        fault("{a,b,((((((c))))))}", 10, 3);
        taken("((((((a))))))", "a", 1);
        taken("[[[[[[a]]]]]]b", "b", 1);
        taken("{{{{{{a}}}}},b}", "b a", 1);
    }

    private static void sixthForm() {
        sentence("3 a sixth FORM of a { } (at the comma ahead of it)");
        good("{a,b,c,d,e}");
        fault("{a,b,c,d,e,f}", 10, 3);
        fault("{a,b,c,d,e  ,  f}", 12, 3);
        good("{a|b|c,d|e,f,g h i,j}");
        good("{a,b,c,d,e}{a,b,c,d,e}");
        good("{{a,b,c,d,e},{a,b,c,d,e},c,d,{a,b,c,d,e}}");
        fault("{{a,b,c,d,e},b,c,d,e,f}", 20, 3);
        fault("{a,{a,b,c,d,e,f}}", 13, 3);
        fault("{a,b,c,d,(e,f)}", 11, 1);
    }

    private static void answerSizes() {
        sentence("ANSWERS: WORDS and NUMBERS, 1 to 20");
        String most = times("[a]", 21) + times("[1]", 21);
        taken(most, "", NONE);
        taken(most, "  ", NONE);
        taken(most, "a", 1);
        taken(most, "1", 1);
        taken(most, times("a ", 20), 1);
        taken(most, times("a ", 21), NONE);
        taken(most, times("a ", 10) + times("1 ", 10), 1);
        taken(most, times("a ", 10) + times("1 ", 11), NONE);
        taken(most, times("1 ", 100), NONE);
        taken(times("a ", 20), times("a ", 20), 1);
        taken(times("a ", 20), times("a ", 19), 0);
        taken(times("a ", 21), times("a ", 20), 0);
        taken(times("{a,a,a,a,a}", 4), times("a ", 20), 1);
        taken(times("{a,a,a,a,a}", 4), times("a ", 19), 0);
    }

    private static void tapeOfAnswers() {
        sentence("blanks between and around, in 200 bytes at most");
        taken("a b", "  a   b  ", 1);
        taken("a", wide("a", 200), 1);
        taken("a", at(199, "a"), 1);
        taken("a", wide("a", 201), NONE);
        taken("a", at(199, "aa"), NONE);
        taken("aa", at(199, "aa"), NONE);
        taken("a", at(200, "a"), NONE);
        taken("a", wide("a", 260), NONE);
        taken("a", wide("", 201), NONE);
        for (String sign : new String[] {"|", "[", "]", "(", ")", "{", "}", ",", "..", ";", "."}) {
            taken("a", "a" + sign, NONE);
            taken("a", sign + "a", NONE);
        }
    }

    private static void values() {
        sentence("WORD: the same; NUMBER: one of the same value; NUMBER .. NUMBER: a NUMBER from the one to the other");
        taken("ab", "ab", 1);
        taken("ab", "ba", 0);
        taken("7", "000007", 1);
        taken("000007", "07", 1);
        taken("7", "70", 0);
        taken("3..5", "2", 0);
        taken("3..5", "3", 1);
        taken("3..5", "5", 1);
        taken("3..5", "6", 0);
        taken("4..4", "4", 1);
        taken("4..4", "5", 0);
        taken("0..999999", "0", 1);
        taken("0..999999", "999999", 1);
        taken("0..999999", "a", 0);
        taken("999999..999999", "999998", 0);
        // In base 27 a is 1 and aa is 28.
        taken("28", "aa", 0);
        taken("aa", "28", 0);
        taken("0..999999", times("z", 12), 0);
    }

    private static void rows() {
        sentence("a ROW: its PARTS, one behind another; with '|' one of its ROWS; ( ): its FORM");
        taken("a b c", "a b c", 1);
        taken("a b c", "a b", 0);
        taken("a b c", "b c", 0);
        taken("a b c", "a b c c", 0);
        taken("a|b|c", "c", 1);
        taken("a|b|c", "a b", 0);
        taken("(a|b)(c|d)", "b d", 1);
        taken("a|b c", "a c", 0);
        taken("(a|b)c", "a c", 1);
        // The first ROW that fits is not always the one that does.
        taken("(a|a b|a b c)c", "a b c c", 1);
        taken("(a|a b)(b|b c|c)", "a b c", 1);
        taken("(a|a b)(b)(c)", "a b c", 1);
        taken("(a b|a)(b|c)(c|d)", "a b c", 1);
        taken("(a b|a)(b|c)(c|d)", "a b c d", 1);
        taken("(a)", "a a", 0);
    }

    private static void maybe() {
        sentence("[ ]: its FORM, or nothing");
        taken("[a]", "a", 1);
        taken("[a]", "a a", 0);
        taken("[a]", "b", 0);
        taken("[a b]", "a", 0);
        taken("[a]b", "b", 1);
        taken("[a]a", "a", 1);
        taken("[a]a", "a a", 1);
        taken("[a|b]c", "b c", 1);
        taken("[[a]b]c", "a c", 0);
        taken("[[a]b]c", "b c", 1);
        taken("{[a],[b]}c", "c", 1);
        taken("{[a],[b]}c", "b c", 1);
        taken("[a]|[b]", "b", 1);
        taken(times("[a]", 66), times("a ", 20), 1);
    }

    private static void anyOrder() {
        sentence("{ }: what each of its FORMS takes, one behind another, in whatever order");
        Desk d = new Desk();
        d.question(0, "{a,b,c,d,e}");
        String letters = "abcde";
        int orders = 0;
        for (int n = 0; n < 3125; n++) {
            String order = "";
            for (int rest = n, i = 0; i < 5; i++, rest /= 5) {
                order += letters.charAt(rest % 5) + " ";
            }
            if (order.chars().distinct().count() == 6) {
                orders++;
                due("the order " + order, d.takes(0, order), 1);
            }
        }
        due("all orders", orders, 120);
        due("another form behind it", d.question(0, "{f,g}"), 1);
        due("has its own", d.takes(1, "g f"), 1);
        taken("{a,b,c,d,e}", "a b c d", 0);
        taken("{a,b,c,d,e}", "a b c d d", 0);
        taken("{a,b,c,d,e}", "a b c d e a", 0);
        taken("{a}", "a", 1);
        taken("{a}", "a a", 0);
        taken("{a,a}", "a a", 1);
        taken("{a,a}", "a", 0);
        taken("{a b,c d}", "c d a b", 1);
        taken("{a b,c d}", "a c b d", 0);
        taken("{a|b,a}", "a b", 1);
        taken("{a|b,a}", "b b", 0);
        taken("{a,b}", "a a b", 0);
        taken("{a,b}", "b b a", 0);
        taken("{a,b,c}", "b b c a", 0);
        taken("{a,b,c}", "a c c b", 0);
        taken("{a,b}{c,d}", "b a d c", 1);
        taken("{a,b}{c,d}", "b a b a", 0);
        taken("{a,b,c,d,e}{f,g}", "a b c d e g f", 1);
        taken("{[a],a|b}", "a b", 1);
        taken("{a|b,[a]}", "a b", 1);
        taken("{[a],[a b],b}", "b a b a", 1);
        taken("x{a,{b,c}}y", "x c b a y", 1);
        taken("x{a,{b,c}}y", "x c a b y", 0);
    }

    private static void questionNumbers() {
        sentence("QUESTIONS 0 .. 59; -300: there are 60");
        Desk d = new Desk();
        for (int q = 0; q < 60; q++) {
            due("question", d.question(q % 8, "a"), q);
        }
        due("a 61st", d.question(0, "b"), -300);
        due("a 61st that is faulty", d.question(0, "2..1"), -300);
        due("no fault of it", d.x.fault(), 0);
        due("a 61st of no theme", d.question(8, "b"), -300);
        due("60", d.x.count(0), 60);
        due("the last", d.takes(59, "a"), 1);
        due("is as it was", d.takes(59, "b"), 0);
        due("none behind it", d.takes(60, "a"), NONE);
    }

    private static void questionRefused() {
        sentence("a THEME 0 .. 7; -300: no such THEME");
        for (int theme = 0; theme < 8; theme++) {
            Desk d = new Desk();
            due("theme " + theme, d.question(theme, "a"), 0);
            due("is told", d.asked(0, 0), theme);
        }
        for (int theme : new int[] {-1, 8, 256, MIN, MAX}) {
            Desk d = new Desk();
            d.question(0, "2..1");
            due("theme " + theme, d.question(theme, "a"), -300);
            due("theme " + theme + " and a fault", d.question(theme, "]"), -300);
            due("the fault ahead stays", d.x.fault(), 2);
            due("no question", d.x.count(0), 0);
        }

        sentence("its number; -1 less the place of its FAULT");
        Desk d = new Desk();
        due("place 0", d.question(0, "]"), -1);
        due("none came", d.x.count(0), 0);
        due("the first", d.question(0, "a"), 0);
        due("place 200", d.question(0, wide("a", 201)), -201);
        due("the second", d.question(0, "b"), 1);
        due("two", d.x.count(0), 2);
        due("each has its own form", d.takes(0, "b"), 0);
        due("and so has the other", d.takes(1, "b"), 1);
    }

    private static void takesNone() {
        sentence("NONE: no QUESTION, no ANSWER");
        Desk d = new Desk();
        due("none at all", d.takes(0, "a"), NONE);
        d.question(0, "a");
        for (int q : new int[] {-1, 1, 59, 60, MIN, MAX}) {
            due("question " + q, d.takes(q, "a"), NONE);
            due("neither", d.takes(q, "?"), NONE);
        }
        due("no answer", d.takes(0, "a?"), NONE);
        due("an empty one", d.x.takes(0), NONE);
        due("an answer", d.takes(0, "a"), 1);
        due("the tape is empty behind it", d.x.takes(0), NONE);
    }

    private static void lawRounds() {
        sentence("ROUND, 1 to 6");
        lawFault("", 0, 1);
        lawFault("  ", 2, 1);
        lawFault(";", 0, 1);
        for (int n = 1; n <= 6; n++) {
            goodLaw(times("round 1 turns right 0;", n), n, n);
            goodLaw(times(ROUND, n), 8 * n, n);
        }
        lawFault(ROUND + ";", 21, 1);
        lawFault(ROUND + "turns", 21, 1);
        lawFault(times(ROUND, 6) + ";", 126, 1);
        lawFault(times(ROUND, 6) + "1", 126, 1);

        sentence("how many QUESTIONS it wants");
        goodLaw("round 1 buzz right 1;", 1, 1);
        goodLaw("round 1 buzz right 1;round 8 turns right 1;round 3 buzz right 1;", 12, 3);
        Desk d = new Desk();
        d.law(times(ROUND, 6));
        due("a law with fewer rounds", d.law("round 2 buzz right 1;"), 2);
        due("wants no more", d.x.count(1), 2);
        due("in one round", d.x.count(2), 1);
    }

    private static void lawNumbers() {
        sentence("The first NUMBER 1 to 8; 2 a NUMBER that is not as told (at it)");
        for (int n = 1; n <= 8; n++) {
            goodLaw("round " + n + " turns right 1;", n, 1);
        }
        lawFault("round 0 turns right 1;", 6, 2);
        lawFault("round 9 turns right 1;", 6, 2);
        lawFault("round 999999 turns right 1;", 6, 2);
        lawFault("round  000000", 7, 2);
        lawFault(ROUND + "round 0 buzz right 1;", 27, 2);
        lawFault(ROUND + "round 9 buzz right 1;", 27, 2);
    }

    private static void lawPoints() {
        sentence("others 0 to 20; 2 a NUMBER that is not as told (at it)");
        for (int n : new int[] {0, 1, 19, 20}) {
            goodLaw("round 1 buzz right " + n + ";", 1, 1);
            goodLaw("round 1 turns right 1 pass " + n + ";", 1, 1);
            goodLaw("round 1 turns right 1 wrong " + n + ";", 1, 1);
            goodLaw("round 1 turns right 1 pass 1 wrong " + n + ";", 1, 1);
            goodLaw("round 1 buzz right 1 wrong " + n + ";", 1, 1);
        }
        for (int n : new int[] {21, 22, 99, 999999}) {
            lawFault("round 1 buzz right " + n + ";", 19, 2);
            lawFault("round 1 turns right 1 pass " + n + ";", 27, 2);
            lawFault("round 1 turns right 1 wrong " + n + ";", 28, 2);
            lawFault("round 1 turns right 1 pass 1 wrong " + n + ";", 35, 2);
            lawFault("round 1 buzz right 1 wrong " + n + ";", 27, 2);
        }
    }

    private static void lawPass() {
        sentence("'pass' behind 'buzz' can't come");
        lawFault("round 1 buzz right 1 pass 1;", 21, 1);
        lawFault("round 1 buzz right 1 pass 21;", 21, 1);
        lawFault("round 1 buzz right 1 wrong 1 pass 1;", 29, 1);
        lawFault("round 1 turns right 1;round 1 buzz right 1 pass 1;", 43, 1);
        goodLaw("round 1 buzz right 1;round 1 turns right 1 pass 1;", 2, 2);

        sentence("'right' NUMBER [ 'pass' NUMBER ] [ 'wrong' NUMBER ] ;");
        lawFault("round 1 turns pass 1;", 14, 1);
        lawFault("round 1 turns ;", 14, 1);
        lawFault("round 1 turns right 1 wrong 1 pass 1;", 30, 1);
        lawFault("round 1 turns right 1 pass 1 pass 1;", 29, 1);
        lawFault("round 1 turns right 1 wrong 1 wrong 1;", 30, 1);
        lawFault("round 1 turns right 1 right 1;", 22, 1);
        lawFault("round 1 turns right 1 pass wrong 1;", 27, 1);
        lawFault("round 1 turns buzz right 1;", 14, 1);
        lawFault("round 1 turns right 1 round", 22, 1);

        sentence("'round' NUMBER ( 'turns' | 'buzz' ) 'right': a WORD that is like one of these");
        String law = "round 1 turns right 1 pass 1 wrong 1;round 1 buzz right 1;";
        goodLaw(law, 2, 2);
        for (int place = 0; place < law.length(); place++) {
            if (Character.isLetter(law.charAt(place))) {
                int begin = Math.max(law.lastIndexOf(' ', place), law.lastIndexOf(';', place)) + 1;
                lawFault(law.substring(0, place) + "x" + law.substring(place + 1), begin, 1);
                lawFault(law.substring(0, place) + law.charAt(place) + law.substring(place), begin, 1);
                lawFault(law.substring(0, place) + law.substring(place + 1), begin, 1);
            }
        }
    }

    private static void lawSeventh() {
        sentence("3 a seventh 'round' (at it)");
        goodLaw(times(ROUND, 6), 48, 6);
        lawFault(times(ROUND, 7), 126, 3);
        lawFault(times(ROUND, 6) + "   round", 129, 3);
        lawFault(times(ROUND, 6) + "rounds", 126, 1);
        lawFault(times(ROUND, 6) + "roun", 126, 1);
    }

    private static void lawLongest() {
        sentence("TOKENS as of FORMS: a LAW of at most 200 bytes");
        goodLaw(wide(times(ROUND, 6), 200), 48, 6);
        goodLaw(at(74, times(ROUND, 6)), 48, 6);
        lawFault(at(75, times(ROUND, 6)), 200, 1);
        lawFault(wide(times(ROUND, 6), 201), 200, 1);
        lawFault(wide(ROUND, 260), 200, 1);
        lawFault(wide("round 9", 260), 6, 2);
    }

    private static void lawSigns() {
        sentence("SIGN ; alone");
        for (String sign : new String[] {"|", "[", "]", "(", ")", "{", "}", ",", "..", "."}) {
            lawFault("round 1 buzz right 1" + sign + ";", 20, 1);
            lawFault(sign + "round 1 buzz right 1;", 0, 1);
        }
        fault("a;", 1, 1);
        fault(";", 0, 1);
    }

    private static void lawStays() {
        sentence("-300 while a MATCH is on (the LAW stays with both)");
        Desk d = Desk.playing("round 2 turns right 5;");
        due("a law", d.law("round 1 buzz right 1;"), -300);
        due("the same law", d.law("round 2 turns right 5;"), -300);
        due("a faulty law", d.law("round 9"), -300);
        due("an empty tape", d.x.law(), -300);
        due("no fault of it", d.x.fault(), 0);
        due("wanted still", d.x.count(1), 2);
        due("rounds still", d.x.count(2), 1);
        d.answer(0, d.right(0));
        due("its points still", d.x.now(2), 5);
        d.x.nothing(1);
        due("even when the match is over", d.law("round 1 buzz right 1;"), -300);
        d.x.finish();
        due("not behind finish", d.law("round 1 buzz right 1;"), 1);

        Desk faulty = new Desk();
        due("a faulty law is none", faulty.law("round 1 buzz right 1;x"), -22);
        due("so there is none", faulty.pack(0, 1, 1, 0, 0, 1), Desk.THROWS_STATE);
        due("nothing wanted", faulty.x.count(1), 0);
        due("no rounds", faulty.x.count(2), 0);
        Desk points = new Desk().withQuestions(1, 1);
        points.law("round 1 turns right 7;");
        points.law("round 1 turns right 3 pass 2 wrong 1;round 9");
        points.pack(0, 1, 1, 0, 100, 1);
        points.x.begin();
        points.answer(0, points.right(0));
        due("the points of the law that stays", points.x.now(2), 7);
    }

    private static void faultKinds() {
        sentence("The kind of the FAULT of the latest question() or law() that did not tell -300");
        Desk d = new Desk();
        d.question(0, "]");
        due("1", d.x.fault(), 1);
        d.law("round 9");
        due("2 of a law", d.x.fault(), 2);
        d.question(0, "(((((((");
        due("3", d.x.fault(), 3);
        d.question(8, "]");
        due("-300 is passed by", d.x.fault(), 3);
        d.takes(0, "]");
        due("takes too", d.x.fault(), 3);
        due("and asking", d.x.fault(), 3);

        sentence("0 without one and ahead of any");
        due("ahead of any", new Desk().x.fault(), 0);
        Desk refused = new Desk();
        refused.question(8, "]");
        due("ahead of any but a refused one", refused.x.fault(), 0);
        d.question(0, "a");
        due("a question without one", d.x.fault(), 0);
        d.question(0, "]");
        d.law("round 1 buzz right 1;");
        due("a law without one", d.x.fault(), 0);
    }
}
