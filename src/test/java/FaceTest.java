import java.lang.reflect.Constructor;
import java.lang.reflect.Field;
import java.lang.reflect.Method;
import java.lang.reflect.Modifier;
import java.util.Set;
import java.util.TreeSet;

/** The public face, and promise 1. */
public final class FaceTest {
    private static final String[] METHODS = {
        "int pump(int,int)", "int cylinder(int,int,int)", "int rule(int,int,int)", "int loads(int,int,int,int,int)",
        "int valve(int,int)", "int fill(int,int)", "int burst(int,boolean)", "int store(int,int,int)",
        "int about(int,int)", "int tick(int)", "int gauge(int)", "int mover(int)", "long sum(int)",
        "int order(int,int,int,int)", "int waits()", "int start()", "int reading(int,int,int)", "int forget()",
        "int leak(int)", "int sheet(int,int,int)", "int lose(int)", "int put(int,int,int)", "long cell(int,int,int)",
        "int copy(int,int,int,int,int)", "int tell(int)", "int look(int)", "int as(int,int)", "int trace()",
        "int fault()", "int told(int)"};

    private static String faceOf(Method m) {
        StringBuilder b = new StringBuilder();
        b.append(m.getReturnType().getName()).append(' ').append(m.getName()).append('(');
        for (int i = 0; i < m.getParameterTypes().length; i++) {
            b.append(i == 0 ? "" : ",").append(m.getParameterTypes()[i].getName());
        }
        return b.append(')').toString();
    }

    private static void members(Check k) {
        k.part("members");
        Class<?> c = OilPush.class;
        k.isTrue(Modifier.isPublic(c.getModifiers()) && Modifier.isFinal(c.getModifiers()), "public final class");
        Set<String> due = new TreeSet<>(Set.of(METHODS));
        Set<String> there = new TreeSet<>();
        for (Method m : c.getDeclaredMethods()) {
            if (!Modifier.isPrivate(m.getModifiers())) {
                there.add(faceOf(m));
                k.isTrue(Modifier.isPublic(m.getModifiers()) && !Modifier.isStatic(m.getModifiers()), m.toString());
            }
        }
        k.isTrue(due.equals(there), "methods " + there);
        for (Field f : c.getDeclaredFields()) {
            boolean constant = Set.of("UNKNOWN", "OUTSIDE", "STATE", "FULL", "NONE", "LOST").contains(f.getName());
            k.is(constant ? 1 : 0, Modifier.isPrivate(f.getModifiers()) ? 0 : 1, "field " + f.getName());
        }
        k.is(1, c.getDeclaredConstructors().length, "constructors");
        for (Constructor<?> made : c.getDeclaredConstructors()) {
            k.isTrue(Modifier.isPublic(made.getModifiers()) && made.getParameterCount() == 0, made.toString());
        }
    }

    private static void constants(Check k) {
        k.part("constants");
        k.is(-1, OilPush.UNKNOWN, "UNKNOWN");
        k.is(-2, OilPush.OUTSIDE, "OUTSIDE");
        k.is(-3, OilPush.STATE, "STATE");
        k.is(-4, OilPush.FULL, "FULL");
        k.is(-9, OilPush.NONE, "NONE");
        k.is(Long.MIN_VALUE, OilPush.LOST, "LOST");
    }

    private static void newObject(Check k) {
        k.part("promise 1");
        OilPush x = new OilPush();
        for (int what = 0; what < 6; what++) {
            k.is(0, x.told(what), "told(" + what + ")");
        }
        for (int what = 0; what < 5; what++) {
            k.is(0, x.sum(what), "sum(" + what + ")");
        }
        for (int sheet = 0; sheet < 4; sheet++) {
            k.is(0, x.lose(sheet), "lose(" + sheet + ")");
        }
        k.is(-3, x.gauge(0), "gauge(0), no TICK");
        k.is(-3, x.leak(0), "leak(0), no START");
        k.is(-1, x.about(0, 0), "about(0, 0), no CYLINDER");
        k.is(-1, x.mover(0), "mover(0)");
        k.is(0, x.waits(), "waits()");
        k.is(0, x.forget(), "forget()");
        k.is(0, x.trace(), "trace()");
        k.is(0, x.fault(), "fault()");
        k.is(1, x.store(0, 0, 1), "store(0, 0, 1), nothing is in it");
        k.is(0, x.pump(0, 0), "pump(0, 0)");
        k.is(100, x.pump(1, 100), "pump(1, 100)");
        OilPush other = new OilPush();
        x.cylinder(0, 1, 1);
        k.is(0, other.told(0), "told(0) of another object");
    }

    public static void main(String[] args) {
        Check k = new Check("FaceTest");
        members(k);
        constants(k);
        newObject(k);
        k.end();
    }
}
