import java.util.NoSuchElementException;

/** What the tests of the project have in common: answers held against those that are due, texts fed to a tape. */
final class Checks {
    interface Call {
        Object go();
    }

    private int passed;
    private int failed;
    private String part = "";

    void part(String name) {
        part = name;
    }

    void is(String what, Object due, Object got) {
        if (due.equals(got)) {
            passed++;
        } else {
            failed++;
        }
        if (!due.equals(got) && failed <= 40) {
            System.out.println(part + ": " + what + " answered " + got + ", due is " + due);
        }
    }

    void noSuch(String what, Call call) {
        is(what, "NoSuchElementException", thrown(call));
    }

    void illegal(String what, Call call) {
        is(what, "IllegalArgumentException", thrown(call));
    }

    private static String thrown(Call call) {
        try {
            return "nothing, but " + call.go();
        } catch (NoSuchElementException | IllegalArgumentException e) {
            return e.getClass().getSimpleName();
        }
    }

    void end() {
        System.out.println(passed + " answers as due, " + failed + " not");
        if (failed > 0 || passed == 0) {
            System.exit(1);
        }
    }

    /** The text comes behind the tape, with blanks behind it up to a whole feed: how many bytes the text has. */
    static int feed(PromisedStock stock, String text) {
        for (int from = 0; from < text.length(); from += 20) {
            stock.feed(four(text, from), four(text, from + 4), four(text, from + 8), four(text, from + 12),
                four(text, from + 16));
        }
        return text.length();
    }

    private static int four(String text, int from) {
        int bytes = 0;
        for (int i = from; i < from + 4; i++) {
            bytes = bytes << 8 | (i < text.length() ? text.charAt(i) & 255 : 32);
        }
        return bytes;
    }

    static int tell(PromisedStock stock, String text) {
        return stock.network(feed(stock, text));
    }

    static int ask(PromisedStock stock, String text) {
        return stock.ask(feed(stock, text));
    }

    static PromisedStock of(String text) {
        PromisedStock stock = new PromisedStock();
        tell(stock, text);
        return stock;
    }
}
