import java.util.ArrayList;
import java.util.Arrays;
import java.util.List;

/** Texts of the document, read for SlowModel: NETWORKS and QUESTIONS. */
final class SlowReader {
    private final List<String> tokens = new ArrayList<>();
    private final List<Integer> places = new ArrayList<>();
    private int at;

    SlowReader(String text) {
        int i = 0;
        while (i < text.length()) {
            char c = text.charAt(i);
            int from = i;
            i++;
            if (c == ' ' || c == '\n') {
                continue;
            }
            if (letter(c)) {
                while (i < text.length() && letter(text.charAt(i))) {
                    i++;
                }
            } else if (figure(c)) {
                while (i < text.length() && figure(text.charAt(i))) {
                    i++;
                }
            }
            tokens.add(text.substring(from, i));
            places.add(from);
        }
        tokens.add("");
        places.add(text.length());
    }

    private static boolean letter(char c) {
        return c >= 'a' && c <= 'z';
    }

    private static boolean figure(char c) {
        return c >= '0' && c <= '9';
    }

    private String now() {
        return tokens.get(at);
    }

    private SlowModel.Fault fault(int kind) {
        return new SlowModel.Fault(kind, places.get(at));
    }

    private boolean skip(String token) {
        if (now().equals(token)) {
            at++;
            return true;
        }
        return false;
    }

    private int number(long most) throws SlowModel.Fault {
        if (now().isEmpty() || !figure(now().charAt(0))) {
            throw fault(1);
        }
        java.math.BigInteger v = new java.math.BigInteger(now());
        if (v.compareTo(java.math.BigInteger.valueOf(most)) > 0) {
            throw fault(2);
        }
        at++;
        return v.intValue();
    }

    private String name() throws SlowModel.Fault {
        List<String> not = Arrays.asList("stage", "outer", "demand", "promise", "from", "z");
        if (now().isEmpty() || !letter(now().charAt(0)) || now().length() > 6 || not.contains(now())) {
            throw fault(1);
        }
        return now();
    }

    private int find(SlowModel.Net net) throws SlowModel.Fault {
        String name = name();
        for (int s = 0; s < net.stages.size(); s++) {
            if (net.stages.get(s).name.equals(name)) {
                return s;
            }
        }
        throw fault(3);
    }

    SlowModel.Net network() throws SlowModel.Fault {
        SlowModel.Net net = new SlowModel.Net();
        while (!now().isEmpty()) {
            if (now().equals("stage")) {
                stageLine(net);
            } else if (skip("from")) {
                int from = find(net);
                at++;
                int to = find(net);
                if (from == to || net.together(from, to)) {
                    throw fault(4);
                }
                at++;
                net.supplies.add(new int[] {from, to});
            } else if (skip("z")) {
                net.z = number(400);
            } else {
                throw fault(1);
            }
            if (!skip(";")) {
                throw fault(1);
            }
        }
        return net;
    }

    private void stageLine(SlowModel.Net net) throws SlowModel.Fault {
        if (net.stages.size() == 12) {
            throw fault(5);
        }
        at++;
        SlowModel.Stage stage = new SlowModel.Stage();
        stage.name = name();
        for (SlowModel.Stage other : net.stages) {
            if (other.name.equals(stage.name)) {
                throw fault(3);
            }
        }
        at++;
        stage.told[0] = number(9);
        stage.told[1] = number(999);
        if (skip("outer")) {
            stage.told[2] = number(9);
        }
        if (skip("demand")) {
            stage.told[3] = number(99);
            stage.told[4] = number(9999);
        }
        if (skip("promise")) {
            stage.told[5] = number(20);
        }
        net.stages.add(stage);
    }

    private SlowModel.Net asked;
    private int stage;
    private int open;

    int question(SlowModel.Net net) throws SlowModel.Fault {
        asked = net;
        String how = now();
        if (!Arrays.asList("many", "first", "total", "most", "least").contains(how)) {
            throw fault(1);
        }
        boolean test = how.equals("many") || how.equals("first");
        int size = net.stages.size();
        List<Integer> found = new ArrayList<>();
        // Also without STAGES the QUESTION is looked at.
        for (stage = 0; stage < Math.max(1, size); stage++) {
            at = 1;
            open = 0;
            int v = test ? (test() ? 1 : 0) : sum();
            if (!now().isEmpty()) {
                throw fault(1);
            }
            if (size > 0) {
                found.add(v);
            }
        }
        int all = 0;
        for (int v : found) {
            all += v;
        }
        switch (how) {
            case "first": return found.indexOf(1);
            case "most": return found.isEmpty() ? 0 : java.util.Collections.max(found);
            case "least": return found.isEmpty() ? 0 : java.util.Collections.min(found);
            default: return all;
        }
    }

    private boolean test() throws SlowModel.Fault {
        boolean v = both();
        while (skip("or")) {
            v |= both();
        }
        return v;
    }

    private boolean both() throws SlowModel.Fault {
        boolean v = fact();
        while (skip("and")) {
            v &= fact();
        }
        return v;
    }

    private void open() throws SlowModel.Fault {
        if (open == 6) {
            throw fault(3);
        }
        open++;
        at++;
    }

    private void close(String token) throws SlowModel.Fault {
        if (!skip(token)) {
            throw fault(1);
        }
        open--;
    }

    private boolean fact() throws SlowModel.Fault {
        if (now().equals("not")) {
            open();
            boolean v = !fact();
            open--;
            return v;
        }
        if (now().equals("{")) {
            open();
            boolean v = test();
            close("}");
            return v;
        }
        int a = sum();
        String how = now();
        if (!Arrays.asList("<", "=", ">").contains(how)) {
            throw fault(1);
        }
        at++;
        int b = sum();
        return how.equals("<") ? a < b : how.equals("=") ? a == b : a > b;
    }

    private int sum() throws SlowModel.Fault {
        int v = product();
        while (true) {
            if (skip("+")) {
                v += product();
            } else if (skip("-")) {
                v -= product();
            } else {
                return v;
            }
        }
    }

    private int product() throws SlowModel.Fault {
        int v = part();
        while (skip("*")) {
            v *= part();
        }
        return v;
    }

    private int part() throws SlowModel.Fault {
        if (now().equals("(")) {
            open();
            int v = sum();
            close(")");
            return v;
        }
        if (!now().isEmpty() && figure(now().charAt(0))) {
            return number(9999);
        }
        int v = value(now());
        at++;
        return v;
    }

    private int value(String word) throws SlowModel.Fault {
        List<String> told = Arrays.asList("days", "cost", "outer", "mean", "spread", "promise", "pin");
        List<String> more = Arrays.asList("number", "flow", "width", "longest", "suppliers", "customers");
        List<String> byPlan = Arrays.asList("time", "wait", "net", "held", "base", "price");
        if (!told.contains(word) && !more.contains(word) && !byPlan.contains(word)) {
            throw fault(1);
        }
        if (asked.stages.isEmpty()) {
            return 0;
        }
        if (told.contains(word)) {
            return asked.stages.get(stage).told[told.indexOf(word)];
        }
        if (byPlan.contains(word)) {
            return SlowModel.planned(asked, stage, byPlan.indexOf(word));
        }
        switch (word) {
            case "number": return stage;
            case "flow": return asked.flow(stage);
            case "width": return asked.width(stage);
            case "longest": return asked.longest(stage);
            case "suppliers": return asked.suppliers(stage).size();
            default: return asked.customers(stage).size();
        }
    }
}
