import java.lang.management.ManagementFactory;
import java.lang.reflect.Constructor;
import java.lang.reflect.Field;
import java.lang.reflect.InvocationTargetException;
import java.lang.reflect.Method;
import java.lang.reflect.Modifier;
import java.util.Arrays;
import java.util.NoSuchElementException;
import java.util.TreeSet;

/** The face, the room that a run takes, and that no call throws but what the document names. */
public final class RoomTest {
    private static final int[] WILD = {Integer.MIN_VALUE, -501, -1, 0, 1, 2, 3, 5, 7, 8, 20, 21, 41, Integer.MAX_VALUE};
    private static final String[] FACE = {
        "int ask(int,int,int,int)", "int drop(int)", "int ends(int)", "int held(int,int)", "int noughts(int,int)",
        "int number(int,int)", "int put(int,int)", "int rank(int,int,int)", "int span(int,int,int,int)",
        "int spread(int,int,int)", "boolean cell(int,int,int)", "boolean table(int,int)", "boolean turn(int,int,int)",
        "long asked(int,int)", "long count(int,int,int,int)", "long margins(int)", "long pairs(int,int,int)",
        "long row(int,int)", "long score(int,int,int)", "long total(int,int,int)", "void anew()"};
    private static int wrong = 0;

    public static void main(String[] args) throws ReflectiveOperationException {
        face();
        room();
        for (int size : new int[] {0, 1, 2, 20}) {
            wildCalls(size);
        }
        System.out.println(wrong == 0 ? "the face and the room are as due" : wrong + " faults");
        if (wrong != 0) {
            System.exit(1);
        }
    }

    private static void must(boolean holds, String what) {
        if (!holds) {
            wrong++;
            System.out.println("wrong: " + what);
        }
    }

    private static void face() {
        TreeSet<String> want = new TreeSet<>(Arrays.asList(FACE));
        TreeSet<String> privates = new TreeSet<>();
        TreeSet<String> names = new TreeSet<>();
        must(Modifier.isPublic(CloudBench.class.getModifiers()), "the class is public");
        must(Modifier.isFinal(CloudBench.class.getModifiers()), "the class is final");
        for (Method m : CloudBench.class.getDeclaredMethods()) {
            if (Modifier.isPrivate(m.getModifiers())) {
                privates.add(m.getName());
                continue;
            }
            must(m.getModifiers() == Modifier.PUBLIC, m + " is public and no more");
            names.add(m.getName());
            String parameters = Arrays.toString(m.getParameterTypes()).replaceAll("[\\[\\] ]", "");
            must(want.remove(m.getReturnType() + " " + m.getName() + "(" + parameters + ")"), m + " is of the face");
        }
        must(want.isEmpty(), "the face lacks " + want);
        privates.retainAll(names);
        must(privates.isEmpty(), "private methods with public names: " + privates);
        Constructor<?>[] constructors = CloudBench.class.getDeclaredConstructors();
        must(constructors.length == 1 && constructors[0].getParameterCount() == 0, "one constructor");
        must(Modifier.isPublic(constructors[0].getModifiers()), "the constructor is public");
        for (Field f : CloudBench.class.getDeclaredFields()) {
            must(Modifier.isPrivate(f.getModifiers()) || f.getName().equals("NONE"), f + " is private");
        }
        for (Class<?> c : CloudBench.class.getDeclaredClasses()) {
            must(Modifier.isStatic(c.getModifiers()) && !Modifier.isPublic(c.getModifiers()), c + " is static and hidden");
            for (Field f : c.getDeclaredFields()) {
                must(!Modifier.isStatic(f.getModifiers()) || Modifier.isFinal(f.getModifiers()), f + " is final");
            }
        }
    }

    private static long made() {
        return ((com.sun.management.ThreadMXBean) ManagementFactory.getThreadMXBean()).getCurrentThreadAllocatedBytes();
    }

    /** The first run loads what the machine itself makes once; the second is measured. */
    private static void room() {
        long sum = 0;
        for (int round = 0; round < 2; round++) {
            long ahead = made();
            CloudBench x = new CloudBench();
            long built = made() - ahead;
            ahead = made();
            sum += dearRun(x);
            long later = made() - ahead;
            if (round == 1) {
                must(built < 8L * 250_000, "a new object takes " + built + " bytes");
                must(later < 8L * 1000, "the calls of a run take " + later + " bytes");
            }
        }
        must(sum != 0, "the run answers");
    }

    /** 512 calls with full samples and a full table, without any that throws. */
    private static long dearRun(CloudBench x) {
        int calls = 0;
        long sum = 0;
        for (int i = 0; i < 20; i++) {
            sum += x.put(0, i * 50 - 500) + x.put(1, 500 - i * 45);
            calls += 2;
        }
        x.table(3, 4);
        calls++;
        for (int i = 0; i < 12; i++) {
            x.cell(i / 4, i % 4, i < 4 ? 4 : 3);
            calls++;
        }
        while (calls + 13 <= 512) {
            int i = calls;
            sum += x.count(i % 6, 0, 1, i % 3) + x.spread(i % 6, 0, 1) + x.row(1999, 1) + x.score(i % 6, 0, 1);
            sum += x.total(i % 6, 0, 1) + x.span(0, 1, 1, 20) + x.ends(0) + x.pairs(0, 1, 200) + x.margins(2 + i % 4);
            sum += x.ask(i % 6, 0, 1, i % 3) + x.held(1, 2) + x.asked(0, 2) + x.rank(0, 1, 39);
            calls += 13;
        }
        return sum;
    }

    private static CloudBench filled(int size) {
        CloudBench x = new CloudBench();
        for (int s = 0; s < 8; s++) {
            for (int i = 0; i < size; i++) {
                x.put(s, s % 2 == 0 ? i * 50 - 500 : i % 3 * 500 - 500);
            }
        }
        if (size == 20) {
            x.table(3, 4);
            for (int i = 0; i < 12; i++) {
                x.cell(i / 4, i % 4, i < 4 ? 4 : 3);
            }
        }
        return x;
    }

    private static void wildCalls(int size) throws ReflectiveOperationException {
        CloudBench x = filled(size);
        for (Method m : CloudBench.class.getDeclaredMethods()) {
            if (!Modifier.isPublic(m.getModifiers())) {
                continue;
            }
            int many = m.getParameterCount();
            int all = (int) Math.pow(WILD.length, many);
            // of four arguments only some, so that the dear calls stay few
            int step = many == 4 ? 17 : 1;
            for (int code = 0; code < all; code += step) {
                wildCall(x, m, code);
                if (m.getName().equals("drop") || m.getName().equals("put") || m.getName().equals("turn")) {
                    x = filled(size);
                }
            }
        }
    }

    private static void wildCall(CloudBench x, Method m, int code) throws IllegalAccessException {
        Object[] arguments = new Object[m.getParameterCount()];
        int left = code;
        for (int i = 0; i < arguments.length; i++) {
            arguments[i] = WILD[left % WILD.length];
            left /= WILD.length;
        }
        try {
            m.invoke(x, arguments);
        } catch (InvocationTargetException e) {
            Class<?> thrown = e.getCause().getClass();
            Class<?>[] named = m.getExceptionTypes();
            must(named.length == 1 && named[0] == thrown, m.getName() + Arrays.toString(arguments) + " throws " + thrown);
            must(thrown == NoSuchElementException.class || thrown == IndexOutOfBoundsException.class, thrown + " is named");
        }
    }
}
