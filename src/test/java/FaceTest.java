import java.lang.management.ManagementFactory;
import java.lang.reflect.Constructor;
import java.lang.reflect.Field;
import java.lang.reflect.Member;
import java.lang.reflect.Method;
import java.lang.reflect.Modifier;
import java.util.ArrayList;
import java.util.Arrays;
import java.util.Collections;
import java.util.List;

/** The face is the document's and no more, and calls of it make nothing that stays in the room. */
public final class FaceTest {
    private static final String[] FACE = {
        "int feed(int,int,int,int,int)", "int network(int) IllegalArgumentException", "int fault()",
        "int count(int) NoSuchElementException", "int letter(int,int) NoSuchElementException",
        "int stage(int,int) NoSuchElementException",
        "int bound(int,int,int) NoSuchElementException IllegalArgumentException",
        "int change(int,int,int) NoSuchElementException IllegalArgumentException", "int add(int,boolean,int,int)",
        "int supply(int,int)", "int pin(int,int) NoSuchElementException IllegalArgumentException", "int undo()",
        "int take(int)", "int promise(int,int) NoSuchElementException IllegalArgumentException",
        "int planned(int,int) NoSuchElementException", "int plan(int) NoSuchElementException", "int least()",
        "int worth(int,int) NoSuchElementException", "int even(int) IllegalArgumentException", "int budget(int)",
        "int pinned(int,int) NoSuchElementException IllegalArgumentException",
        "int demand(int,int,int) NoSuchElementException IllegalArgumentException",
        "int drawn(int,int) NoSuchElementException", "int day(int,int,int) NoSuchElementException",
        "int days(int,int) NoSuchElementException", "int ask(int) IllegalArgumentException",
        "int chain(int,int) NoSuchElementException", "int frontier(int) NoSuchElementException", "void image()",
        "boolean back()"};

    private static final Checks CHECKS = new Checks();

    private FaceTest() {
    }

    public static void main(String[] args) {
        face();
        inside();
        room();
        CHECKS.end();
    }

    private static boolean isHidden(Member member) {
        return Modifier.isPrivate(member.getModifiers()) || member.isSynthetic();
    }

    private static void face() {
        CHECKS.part("face");
        List<String> open = new ArrayList<>();
        List<String> names = new ArrayList<>();
        for (Method method : PromisedStock.class.getDeclaredMethods()) {
            if (!isHidden(method)) {
                open.add(told(method));
                names.add(method.getName());
                CHECKS.is(method.getName() + " is public", true, Modifier.isPublic(method.getModifiers()));
            }
        }
        List<String> due = new ArrayList<>(Arrays.asList(FACE));
        Collections.sort(due);
        Collections.sort(open);
        CHECKS.is("methods", due, open);
        for (Method method : PromisedStock.class.getDeclaredMethods()) {
            CHECKS.is(method.getName() + " is no other's name", true, !isHidden(method) || !names.contains(method.getName()));
        }
        for (Field field : PromisedStock.class.getDeclaredFields()) {
            CHECKS.is(field.getName() + " is hidden", true, field.getName().equals("NONE") || isHidden(field));
        }
        for (Constructor<?> made : PromisedStock.class.getDeclaredConstructors()) {
            CHECKS.is("constructor", true, Modifier.isPublic(made.getModifiers()) && made.getParameterCount() == 0);
        }
        for (Class<?> inside : PromisedStock.class.getDeclaredClasses()) {
            CHECKS.is(inside.getSimpleName() + " is static", true, Modifier.isStatic(inside.getModifiers()));
        }
        CHECKS.is("final", true, Modifier.isFinal(PromisedStock.class.getModifiers()));
    }

    /** Rules 1, 2, 5 and 11 of LANGUAGE.md, as far as they can be seen from outside. */
    private static void inside() {
        CHECKS.part("inside");
        List<String> names = new ArrayList<>();
        for (String method : FACE) {
            names.add(method.substring(method.indexOf(' ') + 1, method.indexOf('(')));
        }
        List<Class<?>> all = new ArrayList<>(Arrays.asList(PromisedStock.class.getDeclaredClasses()));
        CHECKS.is("classes inside: at most eleven", true, all.size() <= 11);
        for (Class<?> inside : all) {
            CHECKS.is(inside.getSimpleName() + " has no class inside", 0, inside.getDeclaredClasses().length);
            for (Method method : inside.getDeclaredMethods()) {
                CHECKS.is(method.getName() + " is no name of the face", false, names.contains(method.getName()));
            }
        }
        all.add(PromisedStock.class);
        for (Class<?> one : all) {
            int fields = 0;
            for (Field field : one.getDeclaredFields()) {
                boolean shared = Modifier.isStatic(field.getModifiers());
                fields += shared ? 0 : 1;
                CHECKS.is(field.getName() + " is final, if static", true, !shared || Modifier.isFinal(field.getModifiers()));
            }
            CHECKS.is(one.getSimpleName() + " has at most twenty fields: " + fields, true, fields <= 20);
            for (Method method : one.getDeclaredMethods()) {
                CHECKS.is(method.getName() + ": at most seven parameters", true, method.getParameterCount() <= 7);
            }
        }
    }

    private static String told(Method method) {
        StringBuilder text = new StringBuilder(method.getReturnType().getSimpleName());
        text.append(' ').append(method.getName()).append('(');
        for (int i = 0; i < method.getParameterCount(); i++) {
            text.append(i == 0 ? "" : ",").append(method.getParameterTypes()[i].getSimpleName());
        }
        text.append(')');
        for (Class<?> thrown : method.getExceptionTypes()) {
            text.append(' ').append(thrown.getSimpleName());
        }
        return text.toString();
    }

    private static void room() {
        CHECKS.part("room");
        com.sun.management.ThreadMXBean bean =
            (com.sun.management.ThreadMXBean) ManagementFactory.getThreadMXBean();
        long id = Thread.currentThread().getId();
        new PromisedStock();
        bean.getThreadAllocatedBytes(id);
        long before = bean.getThreadAllocatedBytes(id);
        PromisedStock x = new PromisedStock();
        long made = bean.getThreadAllocatedBytes(id) - before;
        CHECKS.is("an object has less than 80000 bytes: " + made, true, made < 80000);
        Checks.tell(x, "stage a 9 9;stage b 9 9 demand 9 9 promise 3;from a b;");
        calls(x);
        before = bean.getThreadAllocatedBytes(id);
        calls(x);
        long more = bean.getThreadAllocatedBytes(id) - before;
        CHECKS.is("calls make nothing: " + more, true, more < 100);
    }

    private static void calls(PromisedStock x) {
        x.feed(0x7374616e, 0, 0, 0, 0);
        x.network(20);
        x.feed(0x6d6f7374, 0x20707269, 0x63652020, 0x20202020, 0x20202020);
        x.ask(10);
        x.fault();
        x.count(3);
        x.letter(0, 0);
        x.stage(0, 9);
        x.bound(0, 1, 999);
        x.change(0, 1, 8);
        x.add(1, false, 3, 3);
        x.undo();
        x.supply(0, 1);
        x.pin(0, 3);
        x.pin(0, -1);
        for (int rule = 0; rule < 4; rule++) {
            x.take(rule);
        }
        x.promise(0, 3);
        x.planned(0, 5);
        x.plan(2);
        x.least();
        x.worth(1, 1);
        x.even(5);
        x.budget(0);
        x.pinned(0, 3);
        x.demand(0, 0, 1);
        x.drawn(1, 1);
        x.day(0, 0, 3);
        x.days(0, 1);
        x.chain(1, 1);
        x.frontier(-1);
        x.image();
        x.back();
    }
}
