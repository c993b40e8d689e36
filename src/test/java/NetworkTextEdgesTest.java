/** The edges that the document names in texts that tell a NETWORK: each test bears the sentence that it holds the class to. */
public final class NetworkTextEdgesTest {
    private static final int NONE = PromisedStock.NONE;
    private static final Checks CHECKS = new Checks();
    private static final String ABC = "stage a 1 1;stage b 1 1;stage c 1 1;";

    private NetworkTextEdgesTest() {
    }

    public static void main(String[] args) {
        stagesAtMostTwelve();
        numbersAsTold();
        numbersThatWouldWrap();
        numbersCountAsWhatTheyAre();
        firstZ();
        textOfFourHundred();
        wordsAreSmallLetters();
        numbersAreFigures();
        anyOtherByteIsOneByItself();
        blanksWhereOneLikes();
        noLineAtAll();
        partsThatMayBeMissing();
        partsInTheirOrder();
        firstSuppliesSecond();
        lastZCounts();
        namesOfOneToSix();
        namesButThoseWords();
        nameToldOnce();
        nameAheadOfWhereItIsAsked();
        numberedByTheirLines();
        theFirstFaultInTheText();
        theFirstFaultOfTheList();
        theEndWhereItCantEnd();
        fault2();
        fault4();
        fault5();
        faultsChangeNothingElse();
        CHECKS.end();
    }

    private static void is(String what, Object due, Object got) {
        CHECKS.is(what, due, got);
    }

    private static void good(int stages, String text) {
        PromisedStock x = new PromisedStock();
        is("network \"" + text + "\"", stages, Checks.tell(x, text));
        is("fault of \"" + text + "\"", NONE, x.fault());
        is("stages of \"" + text + "\"", stages, x.count(0));
    }

    private static void bad(int fault, int place, String text) {
        PromisedStock x = Checks.of("stage old 1 2;z 3;");
        is("network \"" + text + "\"", -10 - fault, Checks.tell(x, text));
        is("place in \"" + text + "\"", place, x.fault());
        is("the tape after \"" + text + "\"", 0, x.count(6));
        is("stages after \"" + text + "\"", 1, x.count(0));
        is("z after \"" + text + "\"", 3, x.count(2));
    }

    private static String stages(int n) {
        StringBuilder text = new StringBuilder();
        for (int s = 0; s < n; s++) {
            text.append("stage ").append((char) ('a' + s)).append(" 1 1;");
        }
        return text.toString();
    }

    private static String times(int n, String text) {
        StringBuilder all = new StringBuilder();
        for (int i = 0; i < n; i++) {
            all.append(text);
        }
        return all.toString();
    }

    private static void stagesAtMostTwelve() {
        CHECKS.part("A NETWORK has STAGES 0 to at most 11");
        good(1, stages(1));
        good(11, stages(11));
        good(12, stages(12));
        bad(5, stages(12).length(), stages(13));
        PromisedStock x = Checks.of(stages(12));
        is("stage 11", 12, x.letter(11, 0));
        CHECKS.noSuch("stage 12", () -> x.letter(12, 0));
    }

    // Where each NUMBER stands in a LINE, in the numbers of stage(), Z behind them.
    private static String told(int what, String number) {
        String[] v = {"1", "1", "1", "1", "1", "1", "1"};
        v[what] = number;
        return "stage a " + v[0] + " " + v[1] + " outer " + v[2] + " demand " + v[3] + " " + v[4] + " promise " + v[5]
            + ";z " + v[6] + ";";
    }

    private static final int[] PLACES = {8, 10, 18, 27, 29, 39, 43};
    private static final int[] MOST = {9, 999, 9, 99, 9999, 20, 400};

    private static int toldOf(PromisedStock x, int what) {
        return what == 6 ? x.count(2) : x.stage(0, what);
    }

    private static void numbersAsTold() {
        CHECKS.part("DAYS (0 to 9), a COST (0 to 999), OUTER (0 to 9), MEAN (0 to 99), SPREAD (0 to 9999), a PROMISE (0 to 20), Z: 0 to 400");
        for (int what = 0; what < 7; what++) {
            for (int v : new int[] {0, 1, MOST[what] - 1, MOST[what]}) {
                good(1, told(what, "" + v));
                is("told " + what, v, toldOf(Checks.of(told(what, "" + v)), what));
            }
            for (int v : new int[] {MOST[what] + 1, MOST[what] + 2, 10 * MOST[what], 10 * (MOST[what] + 1)}) {
                bad(2, PLACES[what], told(what, "" + v));
            }
            bad(1, PLACES[what], told(what, "-1"));
        }
    }

    private static void numbersThatWouldWrap() {
        CHECKS.part("2 a NUMBER that isn't as told");
        String[] great = {"65536", "2147483647", "2147483648", "4294967295", "4294967296", "4294967297",
            "9223372036854775807", "9223372036854775808", "18446744073709551615", "18446744073709551616",
            "340282366920938463463374607431768211456", times(300, "9"), "1" + times(300, "0")};
        for (int what = 0; what < 7; what++) {
            for (String number : great) {
                bad(2, PLACES[what], told(what, number));
            }
        }
    }

    private static void numbersCountAsWhatTheyAre() {
        CHECKS.part("it counts as what it is, 007 as 7");
        for (int what = 0; what < 7; what++) {
            is("007", 7, toldOf(Checks.of(told(what, "007")), what));
            is("00", 0, toldOf(Checks.of(told(what, "00")), what));
            String long0 = times(300, "0");
            is("300 noughts ahead", MOST[what], toldOf(Checks.of(told(what, long0 + MOST[what])), what));
            bad(2, PLACES[what], told(what, long0 + (MOST[what] + 1)));
        }
    }

    private static void firstZ() {
        CHECKS.part("Z: 0 to 400 (165 at first)");
        is("at first", 165, new PromisedStock().count(2));
        is("without one", 165, Checks.of("stage a 1 1;").count(2));
        is("without a text", 165, Checks.of("").count(2));
        PromisedStock x = Checks.of("z 400;");
        is("told", 400, x.count(2));
        Checks.tell(x, "stage a 1 1;");
        is("without one, after another", 165, x.count(2));
    }

    private static void textOfFourHundred() {
        CHECKS.part("A TEXT of at most 400 bytes tells a NETWORK.");
        String text = times(387, " ") + "stage a 1 77;";
        is("how long", 400, text.length());
        good(1, text);
        is("its last NUMBER", 77, Checks.of(text).stage(0, 1));
        bad(1, 399, text.substring(0, 399));
        bad(1, 399, text.substring(0, 399) + "x");
        bad(1, 400, text.substring(1, 399) + "  ");
        for (String word : new String[] {"s", "stag", "stage", "f", "fro", "from", "z"}) {
            boolean whole = word.equals("stage") || word.equals("from") || word.equals("z");
            bad(1, whole ? 400 : 400 - word.length(), times(400 - word.length(), " ") + word);
        }
        for (String word : new String[] {"o", "oute", "outer", "deman", "demand", "promis", "promise"}) {
            boolean whole = word.length() > 5 && !word.equals("promis") || word.equals("outer");
            bad(1, whole ? 400 : 400 - word.length(), "stage a 1 1" + times(389 - word.length(), " ") + word);
        }
        String many = times(100, "z 7;");
        is("a hundred LINES", 0, Checks.tell(new PromisedStock(), many));
        is("the last of them", 8, Checks.of(times(99, "z 7;") + "z 8;").count(2));
        PromisedStock x = new PromisedStock();
        Checks.feed(x, text);
        is("no byte more", NONE, x.feed(0, 0, 0, 0, 0));
        CHECKS.illegal("401", () -> x.network(401));
        is("400", 1, x.network(400));
    }

    private static boolean isLetter(int b) {
        return b >= 97 && b <= 122;
    }

    private static boolean isFigure(int b) {
        return b >= 48 && b <= 57;
    }

    private static boolean isBlank(int b) {
        return b == 32 || b == 10;
    }

    private static void wordsAreSmallLetters() {
        CHECKS.part("a WORD is a row of small letters");
        for (int b = 0; b < 256; b++) {
            String text = "stage a" + (char) b + "c 1 1;";
            if (isLetter(b)) {
                good(1, text);
                is("its letter", b - 96, Checks.of(text).letter(0, 1));
                is("the letter behind it", 3, Checks.of(text).letter(0, 2));
            } else {
                bad(1, isBlank(b) || isFigure(b) ? 8 : 7, text);
            }
        }
    }

    private static void numbersAreFigures() {
        CHECKS.part("a NUMBER a row of figures");
        for (int b = 0; b < 256; b++) {
            String text = "stage a 1 1" + (char) b + "2;";
            if (isFigure(b)) {
                good(1, text);
                is("its figures", 102 + 10 * (b - 48), Checks.of(text).stage(0, 1));
            } else {
                bad(1, isBlank(b) ? 12 : b == ';' ? 12 : 11, text);
            }
        }
    }

    private static void anyOtherByteIsOneByItself() {
        CHECKS.part("any other byte but blanks (32, 10) is one by itself");
        for (int b = 0; b < 256; b++) {
            String text = "stage a 1 1;" + (char) b + (char) b + "z 9;";
            if (isBlank(b)) {
                good(1, text);
                is("z", 9, Checks.of(text).count(2));
            } else {
                bad(1, 12, text);
            }
            if (!isLetter(b) && !isFigure(b) && !isBlank(b) && b != ';') {
                bad(1, 8, "stage a " + (char) b + (char) b + " 1;");
            }
        }
        bad(1, 13, "stage a 1 1 ;; z 9;");
    }

    private static void blanksWhereOneLikes() {
        CHECKS.part("blanks stand where one likes, not in WORDS, NUMBERS");
        good(2, "stage a 1 1;stage b 1 1;from a b;z 1;");
        good(2, "\n stage\n\na\n1 \n1\n;\n\n stage   b 1 1 ; from\na\nb\n;z\n1\n;\n");
        good(1, "stage a1 1outer1demand1 1promise1;z1;");
        bad(1, 0, "sta ge a 1 1;");
        bad(1, 8, "stage a b 1 1;");
        bad(1, 12, "stage a 1 0 9;");
        bad(1, 12, "stage a 1 1 out er 1;");
        bad(1, 0, "stagea 1 1;");
        bad(3, 41, ABC + "from ab;");
    }

    private static void noLineAtAll() {
        CHECKS.part("NETWORK: (LINE ';')*");
        good(0, "");
        good(0, " ");
        good(0, times(400, "\n"));
        good(0, "z 0;");
        good(1, "stage a 1 1;");
        good(1, "stage a 1 1;z 0;z 1;z 2;");
        bad(1, 0, ";");
        bad(1, 12, "stage a 1 1;;");
        bad(1, 0, "a");
        bad(1, 0, "7");
        bad(1, 0, "outer 1;");
        bad(1, 0, "demand 1 1;");
        bad(1, 0, "promise 1;");
        bad(1, 11, "stage a 1 1stage b 1 1;");
        bad(1, 4, "z 1 z 2;");
    }

    private static void partsThatMayBeMissing() {
        CHECKS.part("Without OUTER it is 0, without demand MEAN and SPREAD are 0, without PROMISE there is none.");
        for (int parts = 0; parts < 8; parts++) {
            boolean outer = (parts & 1) != 0;
            boolean demand = (parts & 2) != 0;
            boolean promise = (parts & 4) != 0;
            PromisedStock x = Checks.of("stage full 9 999 outer 9 demand 99 9999 promise 20;");
            String text = "stage a 1 2" + (outer ? " outer 3" : "") + (demand ? " demand 4 5" : "")
                + (promise ? " promise 6" : "") + ";";
            is("\"" + text + "\"", 1, Checks.tell(x, text));
            is("days", 1, x.stage(0, 0));
            is("cost", 2, x.stage(0, 1));
            is("outer of \"" + text + "\"", outer ? 3 : 0, x.stage(0, 2));
            is("mean of \"" + text + "\"", demand ? 4 : 0, x.stage(0, 3));
            is("spread of \"" + text + "\"", demand ? 5 : 0, x.stage(0, 4));
            is("promise of \"" + text + "\"", promise ? 6 : NONE, x.stage(0, 5));
            is("pin of \"" + text + "\"", NONE, x.stage(0, 6));
        }
        is("a promise of 0 is one", 0, Checks.of("stage a 1 2 promise 0;").stage(0, 5));
    }

    private static void partsInTheirOrder() {
        CHECKS.part("'stage' NAME DAYS COST {'outer' NUMBER}? {'demand' MEAN SPREAD}? {'promise' NUMBER}?");
        bad(1, 20, "stage a 1 1 outer 1 outer 1;");
        bad(1, 23, "stage a 1 1 demand 1 1 demand 1 1;");
        bad(1, 23, "stage a 1 1 demand 1 1 outer 1;");
        bad(1, 22, "stage a 1 1 promise 1 promise 1;");
        bad(1, 22, "stage a 1 1 promise 1 outer 1;");
        bad(1, 22, "stage a 1 1 promise 1 demand 1 1;");
        bad(1, 10, "stage a 1 outer 1;");
        bad(1, 8, "stage a outer 1;");
        bad(1, 12, "stage a 1 1 1;");
        bad(1, 20, "stage a 1 1 outer 1 1;");
        bad(1, 23, "stage a 1 1 demand 1 1 1;");
        bad(1, 22, "stage a 1 1 promise 1 1;");
        bad(1, 12, "stage a 1 1 from;");
        bad(1, 12, "stage a 1 1 z 1;");
        bad(1, 12, "stage a 1 1 pin 1;");
        bad(1, 12, "stage a 1 1 outers 1;");
        bad(1, 12, "stage a 1 1 oute 1;");
        bad(1, 20, "stage a 1 1 promise none;");
    }

    private static void firstSuppliesSecond() {
        CHECKS.part("'from' NAME NAME (the first supplies the second)");
        PromisedStock x = Checks.of(ABC + "from c a;");
        is("who supplies a", 4, x.stage(0, 10));
        is("customers of c", 1, x.stage(2, 11));
        is("who supplies c", 0, x.stage(2, 10));
        is("customers of a", 0, x.stage(0, 11));
        is("supplies", 1, x.count(1));
        bad(1, 12, "stage a 1 1;form a a;");
        bad(1, 17, "stage a 1 1;from 1 a;");
        bad(1, 17, "stage a 1 1;from ;");
        bad(1, 45, ABC + "from a b c;");
        bad(1, 42, ABC + "from a;");
    }

    private static void lastZCounts() {
        CHECKS.part("'z' NUMBER (the last one counts; without one 165)");
        is("the last", 2, Checks.of("z 1;stage a 1 1;z 400;z 2;").count(2));
        is("0", 0, Checks.of("z 400;z 0;").count(2));
        is("ahead of all", 3, Checks.of("z 3;stage a 1 1;").count(2));
        is("without one", 165, Checks.of("stage a 1 1;").count(2));
        bad(2, 6, "z 40;z401;");
        bad(2, 8, "z 400;z 401;z 1;");
        bad(1, 2, "z z;");
        bad(1, 2, "z a;");
        bad(1, 2, "z -1;");
    }

    private static void namesOfOneToSix() {
        CHECKS.part("NAME: a WORD of 1 to 6 letters");
        for (int n = 1; n <= 6; n++) {
            String name = "qwerty".substring(0, n);
            PromisedStock x = Checks.of("stage " + name + " 1 1;stage b 1 1;from " + name + " b;");
            is("a name of " + n, 1, x.count(1));
            for (int k = 0; k < 6; k++) {
                is("letter " + k, k < n ? name.charAt(k) - 96 : 0, x.letter(0, k));
            }
        }
        bad(1, 6, "stage qwertyu 1 1;");
        bad(1, 6, "stage " + times(300, "q") + " 1 1;");
        bad(1, 34, "stage qwerty 1 1;stage b 1 1;from qwertyu b;");
        bad(1, 36, "stage qwerty 1 1;stage b 1 1;from b qwertyu;");
        bad(1, 6, "stage 7 1 1;");
        bad(1, 6, "stage A 1 1;");
        bad(1, 6, "stage ; 1 1;");
        good(1, "stage aaaaaa 1 1;");
        good(1, "stage zzzzzz 1 1;");
    }

    private static void namesButThoseWords() {
        CHECKS.part("NAME: a WORD of 1 to 6 letters but stage, outer, demand, promise, from, z");
        for (String word : new String[] {"stage", "outer", "demand", "promise", "from", "z"}) {
            bad(1, 6, "stage " + word + " 1 1;");
            bad(1, 17, "stage a 1 1;from " + word + " a;");
            bad(1, 19, "stage a 1 1;from a " + word + ";");
        }
        String[] near = {"stag", "stages", "tage", "oute", "outers", "deman", "promis", "fro", "froms", "zz", "y", "za",
            "many", "first", "total", "most", "least", "not", "and", "or", "number", "pin", "none"};
        for (String word : near) {
            good(1, "stage " + word + " 1 1;");
            good(2, "stage " + word + " 1 1;stage b 1 1;from b " + word + ";");
        }
    }

    private static void nameToldOnce() {
        CHECKS.part("3 a NAME that is told already (of stage)");
        bad(3, 18, "stage a 1 1;stage a 2 2;");
        bad(3, 23, "stage qwerty 1 1;stage qwerty 2 2;");
        bad(3, stages(11).length() + 6, stages(11) + "stage a 1 1;");
        bad(3, stages(11).length() + 6, stages(11) + "stage k 1 1;");
        good(2, "stage qwerty 1 1;stage qwertz 1 1;");
        good(2, "stage qwerty 1 1;stage awerty 1 1;");
        good(2, "stage qwert 1 1;stage qwerty 1 1;");
        good(2, "stage qwerty 1 1;stage qwert 1 1;");
        good(2, "stage a 1 1;stage aa 1 1;");
        PromisedStock x = Checks.of("stage a 1 1;");
        is("told by another text", 1, Checks.tell(x, "stage a 2 2;"));
        Checks.tell(x, "stage b 1 1;stage c 1 1;x");
        is("told by a text with a fault", 2, Checks.tell(x, "stage b 1 1;stage c 1 1;"));
    }

    private static void nameAheadOfWhereItIsAsked() {
        CHECKS.part("3 a NAME .. that isn't told (of from)");
        bad(3, 5, "from a b;");
        bad(3, 17, "stage a 1 1;from b a;");
        bad(3, 19, "stage a 1 1;from a b;stage b 1 1;");
        bad(3, 41, ABC + "from ab a;");
        bad(3, 43, ABC + "from a abc;");
        bad(3, 22, "stage qwerty 1 1;from qwert qwerty;");
        bad(3, 21, "stage qwert 1 1;from qwerty qwert;");
        good(2, "stage a 1 1;stage b 1 1;from a b;");
        for (int n = 0; n <= 12; n++) {
            String untold = n < 12 ? "" + (char) ('a' + n) : "m";
            int at = stages(n).length();
            bad(3, at + 5, stages(n) + "from " + untold + " " + untold + ";");
            bad(3, at + 5, stages(n) + "from " + untold + " a;");
            bad(3, n == 0 ? at + 5 : at + 7, stages(n) + "from a " + untold + ";");
        }
        PromisedStock x = Checks.of("stage a 1 1;stage b 1 1;");
        is("told by another text", -13, Checks.tell(x, "from a b;"));
        is("its place", 5, x.fault());
        x.add(0, true, 1, 1);
        is("a STAGE without a NAME has none", -11, Checks.tell(x, "stage a 1 1;from  ;"));
    }

    private static void numberedByTheirLines() {
        CHECKS.part("STAGES are numbered by their LINES from 0 on.");
        PromisedStock x = Checks.of("z 1;stage c 1 1;z 2;stage a 1 1;from a c;stage b 1 1;");
        is("0", 3, x.letter(0, 0));
        is("1", 1, x.letter(1, 0));
        is("2", 2, x.letter(2, 0));
    }

    private static void theFirstFaultInTheText() {
        CHECKS.part("at the first TOKEN at which one of these is so it is that");
        bad(2, 8, "stage a 10 1000 x;");
        bad(2, 8, "stage a 10 1;stage a 1 1;from c c;x");
        bad(3, 18, "stage a 1 1;stage a 10 1;");
        bad(4, 19, "stage a 1 1;from a a x;z 999;");
        bad(1, 0, "x 10;stage a 10 1;");
        bad(3, 5, "from a a;");
        bad(3, 5, "from a z;");
        bad(1, 5, "from z a;");
    }

    private static void theFirstFaultOfTheList() {
        CHECKS.part("it is that (the first one of this list)");
        bad(1, 6, "stage 99999 1 1;");
        bad(1, 12, "stage a 1 1 99999;");
        bad(1, 18, "stage a 1 1;stage qwertyu 1 1;");
        bad(1, 17, "stage a 1 1;from qwertyu a;");
        bad(1, 19, "stage a 1 1;from a qwertyu;");
        String noEnd = stages(12).substring(0, stages(12).length() - 1);
        bad(1, noEnd.length(), noEnd + "stage m 1 1;");
        bad(1, noEnd.length() + 1, noEnd + " stage m 1 1;");
    }

    private static void theEndWhereItCantEnd() {
        CHECKS.part("1 it can't stand there (the end, where the text can't end: its length");
        String[] cut = {"stage", "stage a", "stage a 1", "stage a 1 1", "stage a 1 1 outer", "stage a 1 1 outer 1",
            "stage a 1 1 demand", "stage a 1 1 demand 1", "stage a 1 1 demand 1 1", "stage a 1 1 promise",
            "stage a 1 1 promise 1", "from", ABC + "from a", ABC + "from a b", "z", "z 1"};
        for (String text : cut) {
            bad(1, text.length(), text);
            bad(1, text.length() + 1, text + " ");
            bad(1, text.length() + 7, text + "  \n \n  ");
        }
        PromisedStock x = new PromisedStock();
        Checks.feed(x, "stage a 1 1;z 7;");
        is("the text ends with n, not with the tape", -11, x.network(11));
        is("its length", 11, x.fault());
    }

    private static void fault2() {
        CHECKS.part("its place the TOKEN's first byte");
        bad(2, 10, "stage a   10 1;");
        bad(2, 8, "stage\na\n0010\n1;");
        bad(2, 7, "stage a10 1;");
        bad(1, 14, "stage a 1 1   qwertyu;");
        bad(3, 20, "stage a 1 1;stage   a 1 1;");
        bad(4, 21, "stage a 1 1;from a   a;");
    }

    private static void fault4() {
        CHECKS.part("4 the second NAME of from, if it is the first one, or these two already are in one part of the SUPPLIES ahead");
        bad(4, 19, "stage a 1 1;from a a;");
        bad(4, 52, ABC + "from a b;from a b;");
        bad(4, 52, ABC + "from a b;from b a;");
        bad(4, 61, ABC + "from a b;from b c;from c a;");
        bad(4, 61, ABC + "from a b;from b c;from a c;");
        bad(4, 61, ABC + "from a b;from c b;from a c;");
        bad(4, 61, ABC + "from b a;from b c;from c a;");
        good(3, ABC + "from a b;from b c;");
        good(3, ABC + "from a b;from c b;");
        good(3, ABC + "from b a;from b c;");
        String all = stages(12);
        for (int s = 1; s < 12; s++) {
            all += "from " + (char) ('a' + s - 1) + " " + (char) ('a' + s) + ";";
        }
        good(12, all);
        is("eleven", 11, Checks.of(all).count(1));
        bad(4, all.length() + 7, all + "from l a;");
        bad(4, all.length() + 7, all + "from a l;");
        bad(4, all.length() + 7, all + "from f h;");
        PromisedStock x = Checks.of(stages(4) + "from a b;from c d;");
        is("SUPPLIES of another text don't count", 4, Checks.tell(x, stages(4) + "from b a;from d c;from a c;"));
    }

    private static void fault5() {
        CHECKS.part("5 the word of a 13th 'stage'");
        int at = stages(12).length();
        bad(5, at, stages(12) + "stage");
        bad(5, at, stages(12) + "stage;");
        bad(5, at, stages(12) + "stage a 1 1;");
        bad(5, at, stages(12) + "stage m 10 1;");
        bad(5, at + 2, stages(12) + "  stage m 1 1;");
        bad(5, at + 13, stages(12) + "from a b;z 1;stage m 1 1;");
        good(12, stages(12) + "from a b;z 1;");
        bad(1, at, stages(12) + "stages m 1 1;");
    }

    private static void faultsChangeNothingElse() {
        CHECKS.part("-10 less the FAULT (nothing else changes)");
        Twins twins = new Twins(CHECKS, Recipes::rich);
        String[] texts = {"x", "stage q 10 1;", "stage q 1 1;stage q 1 1;", "stage q 1 1;stage r 2 2;z 9;from q q;",
            stages(13)};
        for (int i = 0; i < texts.length; i++) {
            String text = texts[i];
            twins.leavesAllButTape("network \"" + text + "\"", -11 - i, x -> {
                x.ask(0);
                return Checks.tell(x, text);
            });
        }
    }
}
