import java.lang.management.ManagementFactory;
import java.lang.reflect.Constructor;
import java.lang.reflect.Field;
import java.lang.reflect.Member;
import java.lang.reflect.Method;
import java.lang.reflect.Modifier;
import java.util.ArrayList;
import java.util.Arrays;
import java.util.Collections;
import java.util.List;

/** The face is the document's and no more, and calls of it make nothing that stays in the room. */
public final class FaceTest {
    private static final String[] FACE = {
        "int feed(int,int,int,int,int)", "int network(int) IllegalArgumentException", "int fault()",
        "int count(int) NoSuchElementException", "int letter(int,int) NoSuchElementException",
        "int stage(int,int) NoSuchElementException",
        "int bound(int,int,int) NoSuchElementException IllegalArgumentException",
        "int change(int,int,int) NoSuchElementException IllegalArgumentException", "int add(int,boolean,int,int)",
        "int supply(int,int)", "int pin(int,int) NoSuchElementException IllegalArgumentException", "int undo()",
        "int take(int)", "int promise(int,int) NoSuchElementException IllegalArgumentException",
        "int planned(int,int) NoSuchElementException", "int plan(int) NoSuchElementException", "int least()",
        "int worth(int,int) NoSuchElementException", "int even(int) IllegalArgumentException", "int budget(int)",
        "int pinned(int,int) NoSuchElementException IllegalArgumentException",
        "int demand(int,int,int) NoSuchElementException IllegalArgumentException",
        "int drawn(int,int) NoSuchElementException", "int day(int,int,int) NoSuchElementException",
        "int days(int,int) NoSuchElementException", "int ask(int) IllegalArgumentException",
        "int chain(int,int) NoSuchElementException", "int frontier(int) NoSuchElementException", "void image()",
        "boolean back()"};

    private static final Checks CHECKS = new Checks();

    private FaceTest() {
    }

    public static void main(String[] args) {
        face();
        inside();
        room();
        CHECKS.end();
    }

    private static boolean isHidden(Member member) {
        return Modifier.isPrivate(member.getModifiers()) || member.isSynthetic();
    }

    private static void face() {
        CHECKS.part("face");
        List<String> open = new ArrayList<>();
        List<String> names = new ArrayList<>();
        for (Method method : PromisedStock.class.getDeclaredMethods()) {
            if (!isHidden(method)) {
                open.add(told(method));
                names.add(method.getName());
                CHECKS.is(method.getName() + " is public", true, Modifier.isPublic(method.getModifiers()));
            }
        }
        List<String> due = new ArrayList<>(Arrays.asList(FACE));
        Collections.sort(due);
        Collections.sort(open);
        CHECKS.is("methods", due, open);
        for (Method method : PromisedStock.class.getDeclaredMethods()) {
            CHECKS.is(method.getName() + " is no other's name", true, !isHidden(method) || !names.contains(method.getName()));
        }
        for (Field field : PromisedStock.class.getDeclaredFields()) {
            CHECKS.is(field.getName() + " is hidden", true, field.getName().equals("NONE") || isHidden(field));
        }
        for (Constructor<?> made : PromisedStock.class.getDeclaredConstructors()) {
            CHECKS.is("constructor", true, Modifier.isPublic(made.getModifiers()) && made.getParameterCount() == 0);
        }
        for (Class<?> inside : PromisedStock.class.getDeclaredClasses()) {
            CHECKS.is(inside.getSimpleName() + " is static", true, Modifier.isStatic(inside.getModifiers()));
        }
        CHECKS.is("final", true, Modifier.isFinal(PromisedStock.class.getModifiers()));
    }

    /** Rules 1, 2, 5 and 11 of LANGUAGE.md, as far as they can be seen from outside. */
    private static void inside() {
        CHECKS.part("inside");
        List<String> names = new ArrayList<>();
        for (String method : FACE) {
            names.add(method.substring(method.indexOf(' ') + 1, method.indexOf('(')));
        }
        List<Class<?>> all = new ArrayList<>(Arrays.asList(PromisedStock.class.getDeclaredClasses()));
        CHECKS.is("classes inside: at most eleven", true, all.size() <= 11);
        for (Class<?> inside : all) {
            for (Method method : inside.getDeclaredMethods()) {
                boolean hidden = Modifier.isPrivate(method.getModifiers());
                CHECKS.is(method.getName() + " is no name of the face", false, hidden && names.contains(method.getName()));
            }
        }
        all.add(PromisedStock.class);
        for (Class<?> one : all) {
            int fields = 0;
            for (Field field : one.getDeclaredFields()) {
                boolean shared = Modifier.isStatic(field.getModifiers());
                fields += shared ? 0 : 1;
                CHECKS.is(field.getName() + " is final, if static", true, !shared || Modifier.isFinal(field.getModifiers()));
            }
            CHECKS.is(one.getSimpleName() + " has at most twenty fields: " + fields, true, fields <= 20);
            for (Method method : one.getDeclaredMethods()) {
                CHECKS.is(method.getName() + ": at most seven parameters", true, method.getParameterCount() <= 7);
            }
        }
    }

    private static String told(Method method) {
        StringBuilder text = new StringBuilder(method.getReturnType().getSimpleName());
        text.append(' ').append(method.getName()).append('(');
        for (int i = 0; i < method.getParameterCount(); i++) {
            text.append(i == 0 ? "" : ",").append(method.getParameterTypes()[i].getSimpleName());
        }
        text.append(')');
        for (Class<?> thrown : method.getExceptionTypes()) {
            text.append(' ').append(thrown.getSimpleName());
        }
        return text.toString();
    }

    // All calls of one run live in one room of 7.3 million fields and elements, four bytes each at least.
    private static final long ROOM = 7300000L * 4;

    private interface Doing {
        void on(PromisedStock x);
    }

    /** Whatever is called 500 times, object and all stay far within the room. */
    private static void room() {
        CHECKS.part("room");
        Doing[] calls = {x -> x.feed(1, 2, 3, 4, 5), x -> Checks.tell(x, "stage a 1 1;stage b 1 1;from a b;"),
            x -> x.count(3), x -> x.letter(11, 5), x -> x.stage(11, 9), x -> x.bound(0, 1, 999), x -> x.change(0, 1, 8),
            x -> x.add(0, true, 3, 3), x -> x.supply(0, 1), x -> x.pin(0, 3), x -> x.undo(), x -> x.take(0),
            x -> x.take(1), x -> x.take(2), x -> x.take(3), x -> x.promise(0, 3), x -> x.planned(0, 5), x -> x.plan(0),
            x -> x.plan(2), x -> x.least(), x -> x.worth(5, 0), x -> x.worth(5, 1), x -> x.worth(5, 2), x -> x.even(5),
            x -> x.budget(0), x -> x.pinned(0, 3), x -> x.demand(0, 0, 1), x -> x.drawn(0, 1), x -> x.day(0, 39, 2),
            x -> x.day(0, 39, 3), x -> x.days(0, 0), x -> x.days(0, 1), x -> x.days(0, 2),
            x -> Checks.ask(x, "many not{days<3 or cost*(2+price)>base}"), x -> x.chain(11, PromisedStock.NONE),
            x -> x.frontier(PromisedStock.NONE), x -> x.image(), x -> x.back()};
        com.sun.management.ThreadMXBean bean =
            (com.sun.management.ThreadMXBean) ManagementFactory.getThreadMXBean();
        long id = Thread.currentThread().getId();
        long ahead = bean.getThreadAllocatedBytes(id);
        for (int i = 0; i < 100; i++) {
            new PromisedStock();
        }
        long hundred = bean.getThreadAllocatedBytes(id) - ahead;
        CHECKS.is("a hundred objects have so many bytes: " + hundred, true, hundred < ROOM);
        for (int i = 0; i < calls.length; i++) {
            long before = bean.getThreadAllocatedBytes(id);
            PromisedStock x = twelve();
            for (int k = 0; k < (i == 1 || i == 33 ? 150 : 450); k++) {
                calls[i].on(x);
            }
            long made = bean.getThreadAllocatedBytes(id) - before;
            CHECKS.is("call " + i + " again and again makes so many bytes: " + made, true, made < ROOM / 2);
        }
    }

    private static PromisedStock twelve() {
        PromisedStock x = Checks.of("stage a 9 9 outer 9 demand 9 9 promise 3;z 400;");
        for (int s = 1; s < 12; s++) {
            x.add(s - 1, s % 3 == 0, 9, 99);
            x.change(s, 4, 999);
            x.change(s, 5, 20);
        }
        x.pin(5, 3);
        x.image();
        return x;
    }
}
