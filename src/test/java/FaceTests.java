import java.lang.management.ManagementFactory;
import java.lang.reflect.Constructor;
import java.lang.reflect.Field;
import java.lang.reflect.Method;
import java.lang.reflect.Modifier;
import java.util.ArrayList;
import java.util.List;
import java.util.TreeSet;

/** The face of the class, the rule of LANGUAGE.md about it, and what calls make. */
public final class FaceTests extends Faults {
    private static final String[] CALLS = {
        "int come(int,int)", "int tick()", "int tell(int,int)", "int begin()", "int letter(int,int)", "int inside(int)",
        "int round(int,int)", "int out(int,int,int)", "int count(int)", "long chance(int,int,int,int)",
        "long sender(int,int,int,int)", "long stays(int,int)", "long expected(int,int,int)", "int blend()", "int type(int)",
        "int read()", "int drift(int)", "int undo()", "int seed(int)", "int image()", "int restore()",
        "int fits(int,int,int,int)", "int film(int,int,int,int)", "int sheet(int,int,int)", "int drop(int)",
        "int item(int,int,int,long)", "int copy(int,int,int,int,int)"};
    private static final String[] CONSTANTS = {"BAD", "NOT", "FULL", "NONE", "NULL", "CAST", "INDEX", "SIZE"};
    private static final int[] VALUES = {-1, -2, -3, -4, -11, -12, -13, -14};

    private static String told(Method m) {
        StringBuilder text = new StringBuilder(m.getReturnType().getName()).append(' ').append(m.getName()).append('(');
        for (int k = 0; k < m.getParameterCount(); k++) {
            text.append(k > 0 ? "," : "").append(m.getParameterTypes()[k].getName());
        }
        return text.append(')').toString();
    }

    private static void face() throws Exception {
        Class<?> c = MixRounds.class;
        hold(Modifier.isPublic(c.getModifiers()) && Modifier.isFinal(c.getModifiers()), "the class is not public and final");
        TreeSet<String> want = new TreeSet<>(List.of(CALLS));
        TreeSet<String> names = new TreeSet<>();
        for (String call : CALLS) {
            names.add(call.substring(call.indexOf(' ') + 1, call.indexOf('(')));
        }
        TreeSet<String> got = new TreeSet<>();
        for (Method m : c.getDeclaredMethods()) {
            if (Modifier.isPublic(m.getModifiers())) {
                hold(!Modifier.isStatic(m.getModifiers()), m + " is static");
                got.add(told(m));
            } else {
                hold(Modifier.isPrivate(m.getModifiers()), m + " is not private");
                hold(!names.contains(m.getName()), m + " bears the name of a public one");
            }
        }
        hold(got.equals(want), "the calls are " + got);
        Constructor<?>[] made = c.getDeclaredConstructors();
        hold(made.length == 1 && Modifier.isPublic(made[0].getModifiers()) && made[0].getParameterCount() == 0, "the constructor");
        List<String> constants = new ArrayList<>();
        for (Field f : c.getDeclaredFields()) {
            if (Modifier.isPublic(f.getModifiers())) {
                constants.add(f.getName());
            } else {
                hold(Modifier.isPrivate(f.getModifiers()), f + " is not private");
            }
            hold(!Modifier.isStatic(f.getModifiers()) || Modifier.isFinal(f.getModifiers()), f + " is static, not final");
        }
        hold(constants.size() == CONSTANTS.length, "the constants are " + constants);
        for (int k = 0; k < CONSTANTS.length; k++) {
            hold(c.getField(CONSTANTS[k]).getInt(null) == VALUES[k], CONSTANTS[k]);
        }
        for (Class<?> inner : c.getDeclaredClasses()) {
            hold(Modifier.isStatic(inner.getModifiers()) && !Modifier.isPublic(inner.getModifiers()), inner + " is not as told");
            for (Method m : inner.getDeclaredMethods()) {
                hold(!names.contains(m.getName()), m + " bears the name of a public one");
                hold(m.getParameterCount() <= 7, m + " takes more than seven");
            }
        }
    }

    private static long made() {
        return ((com.sun.management.ThreadMXBean) ManagementFactory.getThreadMXBean()).getCurrentThreadAllocatedBytes();
    }

    private static long allCalls(MixRounds x) {
        long sum = x.come(1, 2) + x.tick() + x.tell(3, 1) + x.letter(0, 0) + x.inside(0) + x.round(0, 0) + x.out(0, 0, 3);
        sum += x.count(5) + x.chance(0, 0, 0, 1) + x.sender(0, 0, 1, 1) + x.stays(0, 1) + x.expected(1, 2, 1) + x.blend();
        sum += x.type('1') + x.type('>') + x.type('2') + x.read() + x.drift(40) + x.undo() + x.seed(7) + x.image() + x.restore();
        sum += x.sheet(0, 1, 24) + x.item(0, 1, 0, 3) + x.fits(0, 1, 0, 8) + x.film(0, 0, 1, 0) + x.copy(0, 0, 0, 1, 9) + x.drop(0);
        return sum + x.begin();
    }

    /** All calls live in one room: they work in rows that the constructor makes. */
    private static void room() {
        MixRounds x = new MixRounds();
        long sum = allCalls(x);
        made();
        long before = made();
        for (int n = 0; n < 1000; n++) {
            sum += allCalls(x);
        }
        long bytes = made() - before;
        hold(bytes < 20000 && sum != 0, "29,000 calls made objects of " + bytes + " bytes");
        before = made();
        x = new MixRounds();
        bytes = made() - before;
        hold(bytes < 60000 && x.count(5) == 0, "a new object takes " + bytes + " bytes");
    }

    public static void main(String[] args) throws Exception {
        face();
        room();
        end("the face is as told");
    }
}
