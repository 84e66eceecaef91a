/** What the tests have in common: a count of the answers that are not as due, and checks of one text alone. */
abstract class Checks {
    static final int NONE = QuizLeague.NONE;
    static final int NO_ELEMENT = Desk.THROWS_NO_ELEMENT;
    static final int MIN = Integer.MIN_VALUE;
    static final int MAX = Integer.MAX_VALUE;

    private static int checks = 0;
    private static int wrong = 0;
    private static String sentence = "";
    private static int checksAhead = -1;

    /** The checks behind this are for these words of the document; a sentence without a check is a hole. */
    static void sentence(String words) {
        closeSentence();
        sentence = words;
        checksAhead = checks;
    }

    private static void closeSentence() {
        if (checks == checksAhead) {
            wrong++;
            System.out.println("no check for: " + sentence);
        }
    }

    static void due(String what, long got, long want) {
        checks++;
        if (got != want) {
            wrong++;
            String of = sentence.isEmpty() ? "" : "'" + sentence + "': ";
            System.out.println(of + what + " answered " + got + ", due is " + want);
        }
    }

    static void due(String what, boolean got, boolean want) {
        due(what, got ? 1 : 0, want ? 1 : 0);
    }

    static boolean hasManyWrong() {
        return wrong >= 20;
    }

    static void close(String name) {
        closeSentence();
        System.out.println(name + ": " + checks + " checks, " + wrong + " wrong");
        if (wrong != 0 || checks == 0) {
            System.exit(1);
        }
    }

    static String times(String text, int n) {
        return text.repeat(n);
    }

    static void good(String form) {
        Desk d = new Desk();
        due("<" + form + ">", d.question(0, form), 0);
        due("kind of <" + form + ">", d.x.fault(), 0);
    }

    static void fault(String form, int place, int kind) {
        Desk d = new Desk();
        due("place of the fault of <" + form + ">", d.question(0, form), -1 - place);
        due("kind of the fault of <" + form + ">", d.x.fault(), kind);
    }

    static void taken(String form, String answer, int want) {
        Desk d = new Desk();
        due("form <" + form + ">", d.question(0, form), 0);
        due("<" + form + "> takes <" + answer + ">", d.takes(0, answer), want);
    }

    static void lawFault(String law, int place, int kind) {
        Desk d = new Desk();
        d.law("round 7 buzz right 1;round 2 buzz right 1;");
        due("place of the fault of law <" + law + ">", d.law(law), -1 - place);
        due("kind of the fault of law <" + law + ">", d.x.fault(), kind);
        due("the law stays", d.x.count(1), 9);
        due("its rounds too", d.x.count(2), 2);
    }

    static void goodLaw(String law, int wanted, int rounds) {
        Desk d = new Desk();
        due("law <" + law + ">", d.law(law), wanted);
        due("kind of law <" + law + ">", d.x.fault(), 0);
        due("wanted by law <" + law + ">", d.x.count(1), wanted);
        due("rounds of law <" + law + ">", d.x.count(2), rounds);
    }
}
