import java.lang.reflect.Constructor;
import java.lang.reflect.Field;
import java.lang.reflect.Method;
import java.lang.reflect.Modifier;
import java.util.Arrays;
import java.util.Set;
import java.util.TreeSet;

/** The public face, and that no call throws, whatever its arguments and the state before. */
public final class FaceTest extends Checks {
    private static final String[] FACE = {
        "about(int)int", "at()int", "byteAt(int)int", "cell(int,int)int", "clear()void", "count(int,int)boolean",
        "countAll()int", "decode(int)int", "describe()int", "encode()int", "just(int)boolean", "place(int)boolean",
        "points(int)int", "read(int,int)int", "share(int)boolean", "size()int", "turn()void", "write(long,int)boolean"};
    private static final int[] FAR = {
        Integer.MIN_VALUE, Integer.MIN_VALUE + 1, -65536, -6001, -256, -8, -1, 0, 1, 4, 5, 8, 12, 13, 31, 32, 255, 256,
        4095, 4096, 5999, 6000, 6001, 65535, 65536, 1 << 28, Integer.MAX_VALUE - 7, Integer.MAX_VALUE};

    public static void main(String[] args) {
        members();
        for (int a : FAR) {
            farArguments(new Coder(), a);
            farArguments(ofOneSymbol(), a);
            farArguments(ofAllSymbols(), a);
        }
        for (int two = 0; two < 65536; two++) {
            anyBytesRead(two);
        }
        end();
    }

    private static void members() {
        int modifiers = StateCoder.class.getModifiers();
        due("public final class", Modifier.isPublic(modifiers) && Modifier.isFinal(modifiers));
        Set<String> seen = new TreeSet<>();
        Set<String> names = new TreeSet<>();
        for (Method m : StateCoder.class.getDeclaredMethods()) {
            if (Modifier.isPublic(m.getModifiers())) {
                String types = String.join(",", Arrays.stream(m.getParameterTypes()).map(Class::getName).toList());
                seen.add(m.getName() + "(" + types + ")" + m.getReturnType().getName());
                names.add(m.getName());
            }
        }
        due("the methods " + seen, seen.equals(new TreeSet<>(Arrays.asList(FACE))));
        for (Method m : StateCoder.class.getDeclaredMethods()) {
            if (!Modifier.isPublic(m.getModifiers())) {
                due("private " + m, Modifier.isPrivate(m.getModifiers()) && !names.contains(m.getName()));
            }
        }
        Constructor<?>[] constructors = StateCoder.class.getDeclaredConstructors();
        due("one constructor", constructors.length == 1 && constructors[0].getParameterCount() == 0);
        for (Field f : StateCoder.class.getDeclaredFields()) {
            due("private " + f, Modifier.isPrivate(f.getModifiers()));
        }
        for (Class<?> c : StateCoder.class.getDeclaredClasses()) {
            due("static, not public " + c, Modifier.isStatic(c.getModifiers()) && !Modifier.isPublic(c.getModifiers()));
        }
    }

    private static Coder ofOneSymbol() {
        Coder x = new Coder();
        x.setOnly(255, 12);
        x.write(0x0010, 2);
        due("decode", x.decode(6000) == 6000);
        x.turn();
        return x;
    }

    private static Coder ofAllSymbols() {
        Coder x = new Coder();
        for (int s = 0; s < 256; s++) {
            x.count(s, 65535);
        }
        due("share", x.share(12));
        x.write(-1L, 8);
        return x;
    }

    private static void farArguments(Coder x, int a) {
        try {
            for (int b : FAR) {
                x.write(a, b);
                x.cell(a, b);
                x.read(a, b);
                x.count(a, b);
            }
            x.place(a);
            x.share(a);
            x.just(a);
            x.about(a);
            x.points(a);
            x.byteAt(a);
            x.decode(a);
            x.encode();
            x.describe();
            x.countAll();
            x.turn();
        } catch (RuntimeException e) {
            due(a + " threw " + e, false);
        }
    }

    /** The share that two bytes and some more behind them tell is whole, or refused. */
    private static void anyBytesRead(int two) {
        Coder x = new Coder();
        x.write(two, 2);
        x.write((two & 1) == 0 ? 0x5555555555555555L * (two % 3) : two * 0x9E3779B97F4A7C15L, 8);
        try {
            int order = x.read(12, 255);
            due("order " + order, order >= -3 && order <= 12);
            if (order > 0) {
                due("whole share of " + two, together(x) == 1 << order);
            }
            x.place(0);
            x.encode();
            x.decode(1 + two % 20);
        } catch (RuntimeException e) {
            due(two + " threw " + e, false);
        }
    }

    private static int together(Coder x) {
        int sum = 0;
        for (int points : x.firstPoints(256)) {
            sum += Math.abs(points);
        }
        return sum;
    }

    private static void due(String what, boolean right) {
        due(what, right, true);
    }
}
