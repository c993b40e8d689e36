/** The edges that the document names in QUESTIONS: each test bears the sentence that it holds the class to. */
public final class QuestionEdgesTest {
    private static final int NONE = PromisedStock.NONE;
    private static final int NO_ANSWER = -1000000000;
    private static final Checks CHECKS = new Checks();
    private static final String THREE = "stage a 2 9 outer 1 demand 1 10;stage b 3 8 promise 7;stage c 1 7 demand 20 300;from a b;from a c;";
    private static final String[] VALUES = {"number", "days", "cost", "outer", "mean", "spread", "promise", "pin",
        "flow", "width", "longest", "suppliers", "customers", "time", "wait", "net", "held", "base", "price"};

    private QuestionEdgesTest() {
    }

    public static void main(String[] args) {
        textOfTwoHundred();
        tokensAsAbove();
        whatIsAsked();
        withoutStages();
        tests();
        facts();
        sums();
        fromTheLeft();
        numbers();
        wraps();
        values();
        valuesThatAreNone();
        wordsThatArentTold();
        theEndWhereItCantEnd();
        whatCantStandThere();
        fault2();
        fault3();
        closedOnesDontCount();
        firstOfTheList();
        tapeIsEmptyThen();
        nothingElseChanges();
        CHECKS.end();
    }

    private static void is(String what, Object due, Object got) {
        CHECKS.is(what, due, got);
    }

    private static void asked(int due, String text) {
        PromisedStock x = Checks.of(THREE);
        is("\"" + text + "\"", due, Checks.ask(x, text));
        is("fault of \"" + text + "\"", NONE, x.fault());
    }

    private static void bad(int fault, int place, String text) {
        for (String network : new String[] {THREE, ""}) {
            PromisedStock x = Checks.of(network);
            is("\"" + text + "\"", NO_ANSWER - fault, Checks.ask(x, text));
            is("place in \"" + text + "\"", place, x.fault());
            is("the tape after \"" + text + "\"", 0, x.count(6));
        }
    }

    private static String times(int n, String text) {
        StringBuilder all = new StringBuilder();
        for (int i = 0; i < n; i++) {
            all.append(text);
        }
        return all.toString();
    }

    private static void textOfTwoHundred() {
        CHECKS.part("A QUESTION is a TEXT of at most 200 bytes of the tape");
        String text = "most " + times(97, "1+") + "9";
        is("how long", 200, text.length());
        asked(106, text);
        asked(97, "most " + times(96, "1*") + "97");
        asked(3, "many " + times(27, "1=1and ") + "1=1");
        asked(0, "many 1=2" + times(24, "or 1=2  "));
        bad(1, 200, "most " + times(97, "1+") + " ");
        bad(1, 199, "most " + times(97, "1+") + ";");
        PromisedStock x = Checks.of(THREE);
        Checks.feed(x, text + "+1");
        CHECKS.illegal("201 bytes", () -> x.ask(201));
        is("the tape stays", 220, x.count(6));
        is("200 of them", 106, x.ask(200));
    }

    private static void tokensAsAbove() {
        CHECKS.part("(TOKENS as above)");
        for (int b = 0; b < 256; b++) {
            char c = (char) b;
            String text = "most 1" + c + "2";
            if (c >= '0' && c <= '9') {
                asked(102 + 10 * (c - '0'), text);
            } else if (c == '+' || c == '-' || c == '*') {
                asked(c == '+' ? 3 : c == '-' ? -1 : 2, text);
            } else {
                bad(1, c == ' ' || c == '\n' ? 7 : 6, text);
            }
            String word = "most co" + c + "t";
            if (c == 's') {
                asked(9, word);
            } else {
                bad(1, 5, word);
            }
            if (c == ' ' || c == '\n') {
                asked(9, c + "most" + c + c + "cost" + c);
            } else {
                bad(1, 0, c + " most cost");
            }
        }
        asked(9, "most 009");
        bad(1, 5, "most co st");
    }

    private static void whatIsAsked() {
        CHECKS.part("for how many the TEST holds; the first for which it does (NONE: none); the SUMS of all together; the greatest, the least SUM");
        asked(0, "many days > 3");
        asked(1, "many days > 2");
        asked(2, "many days > 1");
        asked(3, "many days > 0");
        asked(NONE, "first days > 3");
        asked(1, "first days > 2");
        asked(0, "first days > 1");
        asked(2, "first days < 2");
        asked(6, "total days");
        asked(3, "most days");
        asked(1, "least days");
        asked(-1, "most 0-days");
        asked(-3, "least 0-days");
        asked(-6, "total 0-days");
        asked(5, "most 5");
        asked(5, "least 5");
        for (String word : new String[] {"", "all", "man", "manys", "max", "min", "sum", "not", "days", "1", "{", "("}) {
            bad(1, 0, word);
        }
    }

    private static void withoutStages() {
        CHECKS.part("(0 without STAGES)");
        PromisedStock x = new PromisedStock();
        is("many", 0, Checks.ask(x, "many 1=1"));
        is("first", NONE, Checks.ask(x, "first 1=1"));
        is("total", 0, Checks.ask(x, "total 7"));
        is("most", 0, Checks.ask(x, "most 7"));
        is("least", 0, Checks.ask(x, "least 7"));
        is("most", 0, Checks.ask(x, "most 0-7"));
        is("a VALUE", 0, Checks.ask(x, "least price"));
        is("no fault", NONE, x.fault());
        PromisedStock one = Checks.of("stage a 1 1;");
        is("with one STAGE", 7, Checks.ask(one, "most 7"));
        is("with one STAGE", -7, Checks.ask(one, "most 0-7"));
        is("with one STAGE", 7, Checks.ask(one, "least 7"));
        is("with one STAGE", 0, Checks.ask(one, "first 1=1"));
        PromisedStock twelve = Checks.of("stage a 1 1;");
        for (int s = 1; s < 12; s++) {
            twelve.add(0, true, 1, 1);
        }
        is("with twelve", 12, Checks.ask(twelve, "many 1=1"));
        is("with twelve", 11, Checks.ask(twelve, "first number=11"));
        is("with twelve", 66, Checks.ask(twelve, "total number"));
        is("with twelve", 11, Checks.ask(twelve, "most suppliers"));
    }

    private static void tests() {
        CHECKS.part("TEST: BOTH ('or' BOTH)*. BOTH: FACT ('and' FACT)*.");
        String[] facts = {"1=2", "1=1"};
        for (int i = 0; i < 8; i++) {
            boolean a = (i & 1) != 0;
            boolean b = (i & 2) != 0;
            boolean c = (i & 4) != 0;
            String fa = facts[i & 1];
            String fb = facts[i >> 1 & 1];
            String fc = facts[i >> 2];
            asked(a || b && c ? 3 : 0, "many " + fa + " or " + fb + " and " + fc);
            asked(a && b || c ? 3 : 0, "many " + fa + " and " + fb + " or " + fc);
            asked((a || b) && c ? 3 : 0, "many {" + fa + " or " + fb + "} and " + fc);
            asked(a || b || c ? 3 : 0, "many " + fa + " or " + fb + " or " + fc);
            asked(a && b && c ? 3 : 0, "many " + fa + " and " + fb + " and " + fc);
            asked(!a && b || c ? 3 : 0, "many not " + fa + " and " + fb + " or " + fc);
            asked(!(a && b) || c ? 3 : 0, "many not {" + fa + " and " + fb + "} or " + fc);
            asked(a && !b || !c ? 3 : 0, "many " + fa + " and not " + fb + " or not " + fc);
        }
    }

    private static void facts() {
        CHECKS.part("FACT: 'not' FACT | '{' TEST '}' | SUM ('<' | '=' | '>') SUM");
        for (int a = 1; a <= 3; a++) {
            asked(a < 2 ? 3 : 0, "many " + a + "<2");
            asked(a == 2 ? 3 : 0, "many " + a + "=2");
            asked(a > 2 ? 3 : 0, "many " + a + ">2");
            asked(a < 2 ? 0 : 3, "many not " + a + "<2");
            asked(a < 2 ? 3 : 0, "many not not " + a + "<2");
            asked(a < 2 ? 0 : 3, "many not{not{not " + a + "<2}}");
        }
        asked(3, "many {1=1}");
        asked(3, "many {{1=1}}");
        bad(1, 8, "many 1=1=1");
        bad(1, 7, "many 1<>1");
        bad(1, 7, "many 1==1");
        bad(1, 6, "many 1");
        bad(1, 7, "many {1}=1");
        bad(1, 8, "many (1)");
        bad(1, 7, "many (1=1)");
        bad(1, 6, "many {}");
        bad(1, 10, "many {1=1}=1");
        bad(1, 10, "many {1=1}{1=1}");
    }

    private static void sums() {
        CHECKS.part("SUM: PRODUCT (('+' | '-') PRODUCT)*. PRODUCT: PART ('*' PART)*. PART: NUMBER (0 to 9999) | '(' SUM ')' | VALUE.");
        asked(7, "most 1+2*3");
        asked(9, "most (1+2)*3");
        asked(5, "most 2*3-1");
        asked(4, "most 2*(3-1)");
        asked(14, "most 2*3+2*4");
        asked(7, "most ((((((7))))))");
        asked(9, "most cost");
        asked(81, "most cost*cost");
        bad(1, 7, "most 1+");
        bad(1, 7, "most 1-");
        bad(1, 7, "most 1*");
        bad(1, 7, "most 1++1");
        bad(1, 7, "most 1*-1");
        bad(1, 5, "most -1");
        bad(1, 5, "most +1");
        bad(1, 5, "most *1");
        bad(1, 6, "most ()");
        bad(1, 7, "most (1");
        bad(1, 8, "most (1+)");
        bad(1, 6, "most 1)");
        bad(1, 8, "most (1)(1)");
        bad(1, 7, "most 1 1");
        bad(1, 7, "most 2 days");
        bad(1, 10, "most days days");
    }

    private static void fromTheLeft() {
        CHECKS.part("From the left");
        asked(-4, "most 1-2-3");
        asked(2, "most 1-(2-3)");
        asked(0, "most 5-3-2");
        asked(6, "most 5-(3-4)");
        asked(0, "most 1-2+1");
        asked(24, "most 2*3*4");
        asked(-5, "most 1-2*3");
    }

    private static void numbers() {
        CHECKS.part("NUMBER (0 to 9999)");
        asked(0, "most 0");
        asked(9998, "most 9998");
        asked(9999, "most 9999");
        asked(9999, "most " + times(190, "0") + "9999");
        bad(2, 5, "most 10000");
        bad(2, 5, "most 10001");
        bad(2, 5, "most 65536");
        bad(2, 5, "most 99999");
        bad(2, 5, "most 1000000");
        bad(2, 5, "most 2147483648");
        bad(2, 5, "most 4294967296");
        bad(2, 5, "most 4294967297");
        bad(2, 5, "most 18446744073709551617");
        bad(2, 5, "most " + times(190, "9"));
        bad(2, 5, "most " + times(190, "0") + "10000");
        bad(2, 7, "most 1*10000");
        bad(2, 7, "many 1=10000");
        bad(2, 6, "most (10000)");
    }

    private static void wraps() {
        CHECKS.part("ints that wrap");
        asked(9999 * 9999 * 9999, "most 9999*9999*9999");
        asked(Integer.MIN_VALUE, "most 8192*8192*32");
        asked(Integer.MAX_VALUE, "most 8192*8192*32-1");
        asked(Integer.MIN_VALUE, "most 8192*8192*32-1+1");
        asked(0, "most 8192*8192*64");
        asked(3, "many 8192*8192*32<0");
        asked(3, "many 8192*8192*32-1>0");
        asked(3, "many 8192*8192*32-1>8192*8192*32");
        asked(0, "many 8192*8192*32>8192*8192*32-1");
        asked(3, "many 0-8192*8192*32=8192*8192*32");
        // Three STAGES, each the greatest int.
        asked(Integer.MAX_VALUE - 2, "total 8192*8192*32-1");
        asked(Integer.MIN_VALUE, "total 8192*8192*32");
        asked(Integer.MIN_VALUE, "least 8192*8192*32+number");
        asked(Integer.MIN_VALUE + 2, "most 8192*8192*32+number");
        // STAGE 2 is beyond the greatest int.
        asked(Integer.MAX_VALUE, "most 8192*8192*32-2+number");
        asked(Integer.MIN_VALUE, "least 8192*8192*32-2+number");
        asked(2, "first 8192*8192*32-2+number<0");
    }

    private static void values() {
        CHECKS.part("VALUES of a STAGE");
        PromisedStock x = Checks.of(THREE);
        x.pin(2, 119);
        x.promise(0, 3);
        x.promise(1, 2);
        int[][] due = {
            {0, 2, 9, 1, 1, 10, NONE, NONE, 21, 310, 3, 0, 2, 3, 1, 0, 0, 0, 0},
            {1, 3, 8, 0, 0, 0, 7, NONE, 0, 0, 6, 1, 0, 2, 3, 4, 0, 0, 0},
            {2, 1, 7, 0, 20, 300, NONE, 119, 20, 300, 4, 1, 0, 0, 3, 4, 58, 138, 406}};
        for (int v = 0; v < VALUES.length; v++) {
            int together = 0;
            int most = due[0][v];
            int least = due[0][v];
            for (int s = 0; s < 3; s++) {
                together += due[s][v];
                most = Math.max(most, due[s][v]);
                least = Math.min(least, due[s][v]);
                is("first of " + VALUES[v] + " of " + s, s,
                    Checks.ask(x, "first number=" + s + " and " + VALUES[v] + "+1=" + (due[s][v] + 1)));
            }
            is("total " + VALUES[v], together, Checks.ask(x, "total " + VALUES[v]));
            is("most " + VALUES[v], most, Checks.ask(x, "most " + VALUES[v]));
            is("least " + VALUES[v], least, Checks.ask(x, "least " + VALUES[v]));
        }
    }

    private static void valuesThatAreNone() {
        CHECKS.part("'promise', 'pin' (-1: none); 'held', 'base', 'price' (COST times HELD; these three -1, if NET is below 0)");
        PromisedStock x = Checks.of("stage a 2 5 demand 3 100;z 100;");
        is("promise", -1, Checks.ask(x, "total promise"));
        is("pin", -1, Checks.ask(x, "total pin"));
        x.change(0, 5, 0);
        x.pin(0, 0);
        is("promise", 0, Checks.ask(x, "total promise"));
        is("pin", 0, Checks.ask(x, "total pin"));
        String[] three = {"held", "base", "price"};
        int[][] due = {{15, 21, 75}, {10, 13, 50}, {0, 0, 0}, {-1, -1, -1}};
        for (int time = 0; time < 4; time++) {
            x.promise(0, time);
            is("net", 2 - time, Checks.ask(x, "total net"));
            is("time", time, Checks.ask(x, "total time"));
            is("wait", 0, Checks.ask(x, "total wait"));
            for (int i = 0; i < 3; i++) {
                is(three[i] + " by time " + time, due[time][i], Checks.ask(x, "total " + three[i]));
            }
        }
        x.promise(0, 119);
        is("net", -117, Checks.ask(x, "total net"));
        is("price", -1, Checks.ask(x, "total price"));
    }

    private static void wordsThatArentTold() {
        CHECKS.part("1 it can't stand there (a WORD that isn't told, too)");
        for (String value : VALUES) {
            bad(1, 5, "most " + value + "s");
            bad(1, 5, "most " + value.substring(0, value.length() - 1));
            bad(1, 5, "most x" + value);
            bad(1, 5, "most " + value.toUpperCase());
            bad(1, 5, "many " + value + "s=1");
        }
        for (String word : new String[] {"many", "first", "total", "most", "least", "not", "and", "or", "stage", "a", "mill", "z"}) {
            bad(1, 5, "most " + word);
        }
        bad(1, 9, "many 1=1 xor 1=1");
        bad(1, 9, "many 1=1 an 1=1");
        bad(1, 9, "many 1=1 ands 1=1");
        bad(1, 9, "many 1=1 o 1=1");
        bad(1, 5, "many no 1=1");
        bad(1, 5, "many nots 1=1");
    }

    private static void theEndWhereItCantEnd() {
        CHECKS.part("1 it can't stand there (the end, where the text can't end: its length)");
        String[] cut = {"", "many", "first", "total", "most", "least", "many not", "many {", "many (", "many 1", "many 1<",
            "many 1=", "many 1>", "many {1=1", "many 1=1 and", "many 1=1 or", "many 1=1 or not", "most (", "most 1+",
            "most 1-", "most 1*", "most (1", "most ((1)", "most 1+(1", "many days", "many not days"};
        for (String text : cut) {
            bad(1, text.length(), text);
            bad(1, text.length() + 1, text + " ");
            bad(1, text.length() + 4, text + "\n \n ");
        }
        PromisedStock x = new PromisedStock();
        Checks.feed(x, "most 1+1");
        is("the text ends with n, not with the tape", NO_ANSWER - 1, x.ask(7));
        is("its length", 7, x.fault());
    }

    private static void whatCantStandThere() {
        CHECKS.part("1 it can't stand there");
        bad(1, 6, "most 1;");
        bad(1, 6, "most 1=1");
        bad(1, 7, "most 1 and 1");
        bad(1, 5, "most not 1");
        bad(1, 5, "most {1}");
        bad(1, 6, "most (not 1=1)");
        bad(1, 6, "most ({1})");
        bad(1, 6, "many ({1=1})");
        bad(1, 6, "many (not 1=1)");
        bad(1, 7, "many 1={1}");
        bad(1, 7, "many 1=not 1");
        bad(1, 8, "many 1=1}");
        bad(1, 8, "many 1=1)");
        bad(1, 9, "many {1=1)");
        bad(1, 8, "many (1 }");
        bad(1, 7, "many (1}=1");
        bad(1, 9, "many 1=1 not 1=1");
        bad(1, 5, "many and 1=1");
        bad(1, 5, "many or 1=1");
        bad(1, 13, "many 1=1 and and 1=1");
        bad(1, 12, "many 1=1 or or 1=1");
        bad(1, 9, "many 1=1 many 1=1");
    }

    private static void fault2() {
        CHECKS.part("2 a NUMBER above 9999: its place the TOKEN's first byte");
        bad(2, 8, "most    10000");
        bad(2, 8, "most 1+\n0010000");
        bad(2, 5, "many 10000");
        bad(2, 5, "many 10000 x");
        bad(1, 6, "most 1x10000");
    }

    private static void fault3() {
        CHECKS.part("3 the 7th of 'not', '{', '(' that are open at once ('not' till its FACT ends)");
        String[] open = {"not ", "{"};
        // Each row of six FACTS that are opened by 'not' or '{'.
        for (int row = 0; row < 64; row++) {
            StringBuilder ahead = new StringBuilder("many ");
            StringBuilder behind = new StringBuilder();
            int nots = 0;
            for (int i = 0; i < 6; i++) {
                int how = row >> i & 1;
                ahead.append(open[how]);
                behind.append(how == 1 ? "}" : "");
                nots += how == 0 ? 1 : 0;
            }
            asked(nots % 2 == 0 ? 3 : 0, ahead + "1=1" + behind);
            bad(3, ahead.length(), ahead + "not 1=1" + behind);
            bad(3, ahead.length(), ahead + "{1=1}" + behind);
            bad(3, ahead.length(), ahead + "(1)=1" + behind);
            bad(3, ahead.length() + 2, ahead + "1=(1)" + behind);
            bad(3, ahead.length() + 4, ahead + "1=1+(1)" + behind);
        }
        for (int facts = 0; facts <= 5; facts++) {
            String ahead = "many " + times(facts, "{") + times(6 - facts, "(");
            asked(3, ahead + "1" + times(6 - facts, ")") + "=1" + times(facts, "}"));
            bad(3, ahead.length(), ahead + "(1)");
        }
        asked(1, "most ((((((1))))))");
        bad(3, 11, "most (((((((1)))))))");
        bad(3, 13, "most 1*(((((((1)))))))");
        bad(3, 11, "most (((((((");
    }

    private static void closedOnesDontCount() {
        CHECKS.part("that are open at once ('not' till its FACT ends)");
        asked(2, "most ((((((1))))))+((((((1))))))");
        asked(7, "most (1)+(1)+(1)+(1)+(1)+(1)+(1)");
        asked(3, "many not not not not not not 1=1 and not not not not not not 1=1");
        asked(3, "many not not not not not not 1=1 or {{{{{{1=1}}}}}}");
        asked(3, "many {not {not {not 1=2}}} and {1=1} and {{{{{{1=1}}}}}}");
        asked(3, "many not{1=2}and{1=1}and not{1=2}and{1=1}and not{1=2}and{1=1}and not{1=2}");
        asked(3, "many {{{{{not 1=2 and not 1=2}}}}}");
        asked(3, "many ((((((1))))))=((((((1))))))");
        asked(3, "many {{{{{(1)=(1)}}}}}");
        bad(3, 39, "many not not not not not 1=2 and {{{{{{{1=1}}}}}}}");
        bad(3, 29, "many not not not not not not (1)=1");
        bad(3, 35, "many not{not{1=1 and{(1)=1 and(1)=((1))}}}");
    }

    private static void firstOfTheList() {
        CHECKS.part("FAULTS: as in 1 .. (the first one of this list)");
        bad(1, 7, "most 1 10000");
        bad(1, 0, "10000");
        bad(1, 11, "most ((((((not 1))))))");
        bad(1, 11, "most (((((({1}))))))");
        bad(1, 12, "most ((((((1(1))))))");
        bad(2, 5, "most 10000 x");
        bad(3, 11, "most (((((((10000");
        bad(2, 11, "most ((((((10000(");
        bad(1, 5, "most x((((((((");
    }

    private static void tapeIsEmptyThen() {
        CHECKS.part("The tape's first n bytes (it is empty then, whatever comes of it) are a QUESTION");
        PromisedStock x = Checks.of(THREE);
        Checks.feed(x, "most 12");
        is("the first bytes", 1, x.ask(6));
        is("the rest is gone", 0, x.count(6));
        Checks.feed(x, "most x");
        is("a fault", NO_ANSWER - 1, x.ask(6));
        is("the tape", 0, x.count(6));
        Checks.feed(x, "most 1");
        is("no bytes", NO_ANSWER - 1, x.ask(0));
        is("its place", 0, x.fault());
        is("the tape", 0, x.count(6));
        is("no bytes of none", NO_ANSWER - 1, x.ask(0));
        CHECKS.illegal("1 of none", () -> x.ask(1));
        is("what comes next is at the front", 9, Checks.ask(x, "most 9"));
        is("many", 0, Checks.ask(x, "many not 1=1"));
        is("nothing of the QUESTION ahead stays", 3, Checks.ask(x, "many 1=1"));
        is("total", 12, Checks.ask(x, "total 1+1+1+1"));
        is("nothing of the QUESTION ahead stays", 6, Checks.ask(x, "total 2"));
    }

    private static void nothingElseChanges() {
        CHECKS.part("a QUESTION, with a FAULT or without, changes nothing of the NETWORK");
        Twins twins = new Twins(CHECKS, Recipes::rich);
        String[] texts = {"most cost", "many {1=1", "total 10000", "most (((((((1", ""};
        int[] due = {11, NO_ANSWER - 1, NO_ANSWER - 2, NO_ANSWER - 3, NO_ANSWER - 1};
        for (int i = 0; i < texts.length; i++) {
            String text = texts[i];
            twins.leavesAllButTape("ask \"" + text + "\"", due[i], x -> {
                x.ask(0);
                return Checks.ask(x, text);
            });
        }
    }
}
