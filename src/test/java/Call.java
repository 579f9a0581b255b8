import java.lang.reflect.Method;
import java.util.Arrays;
import java.util.HashMap;
import java.util.Map;

/** One call of the document's face, by its name, to be made on a BuyersArm or on a PlainArm. */
final class Call {
    private static final Map<String, Method> BUYERS = methodsOf(BuyersArm.class);
    private static final Map<String, Method> PLAIN = methodsOf(PlainArm.class);

    final String name;
    private final Object[] told;

    Call(String name, Object... told) {
        this.name = name;
        this.told = told;
    }

    long on(BuyersArm x) {
        return made(BUYERS, x);
    }

    long on(PlainArm plain) {
        return made(PLAIN, plain);
    }

    /** The same call with another int told at this place. */
    Call with(int place, int other) {
        Object[] changed = told.clone();
        changed[place] = other;
        return new Call(name, changed);
    }

    int places() {
        return told.length;
    }

    boolean isIntAt(int place) {
        return told[place] instanceof Integer;
    }

    @Override
    public String toString() {
        String inner = Arrays.toString(told);
        return name + "(" + inner.substring(1, inner.length() - 1) + ")";
    }

    private long made(Map<String, Method> methods, Object on) {
        try {
            return ((Number) methods.get(name).invoke(on, told)).longValue();
        } catch (ReflectiveOperationException e) {
            throw new IllegalStateException(this + " failed", e);
        }
    }

    private static Map<String, Method> methodsOf(Class<?> c) {
        Map<String, Method> methods = new HashMap<>();
        for (Method m : c.getDeclaredMethods()) {
            methods.put(m.getName(), m);
        }
        return methods;
    }
}
