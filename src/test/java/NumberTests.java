import java.lang.reflect.Constructor;
import java.lang.reflect.Field;
import java.lang.reflect.Method;
import java.math.BigInteger;
import java.util.Arrays;

/**
 * The whole numbers inside the class, against BigInteger: above all those rare digits at which a
 * division has to guess again, which no run of calls is likely to meet.
 */
public final class NumberTests {
    private static final int BASE = 1000000000;
    private static final int ROOM = 90;
    private static final int[] RARE = {0, 1, 2, BASE / 2 - 1, BASE / 2, BASE / 2 + 1, BASE - 2, BASE - 1};

    private static Class<?> whole;
    private static long seed = 7;
    private static int checks;
    private static int wrong;

    private static int pick(int bound) {
        seed = seed * 6364136223846793005L + 1442695040888963407L;
        return (int) ((seed >>> 33) % bound);
    }

    private static Method method(String name, Class<?>... parameters) throws ReflectiveOperationException {
        Method found = whole.getDeclaredMethod(name, parameters);
        found.setAccessible(true);
        return found;
    }

    private static Field field(String name) throws ReflectiveOperationException {
        Field found = whole.getDeclaredField(name);
        found.setAccessible(true);
        return found;
    }

    /** A number whose room still holds the digits of an earlier one, as rows that are used again do. */
    private static Object make() throws ReflectiveOperationException {
        Constructor<?> constructor = whole.getDeclaredConstructor(int.class);
        constructor.setAccessible(true);
        Object made = constructor.newInstance(ROOM);
        Arrays.fill((int[]) field("digit").get(made), BASE - 1);
        return made;
    }

    private static Object of(BigInteger value) throws ReflectiveOperationException {
        Object made = make();
        int[] digit = (int[]) field("digit").get(made);
        int size = 0;
        BigInteger base = BigInteger.valueOf(BASE);
        for (BigInteger rest = value.abs(); rest.signum() > 0; rest = rest.divide(base)) {
            digit[size] = rest.mod(base).intValue();
            size++;
        }
        field("size").setInt(made, size);
        field("isBelow").setBoolean(made, value.signum() < 0);
        return made;
    }

    private static String text(Object number) throws ReflectiveOperationException {
        StringBuilder text = new StringBuilder();
        method("putWhole", StringBuilder.class).invoke(number, text);
        return text.toString();
    }

    private static void alike(String what, BigInteger due, Object number) throws ReflectiveOperationException {
        checks++;
        String got = text(number);
        boolean isZeroBelow = due.signum() == 0 && field("isBelow").getBoolean(number);
        if (!got.equals(due.toString()) || isZeroBelow) {
            wrong++;
            System.out.println(what + " is " + got + ", due is " + due);
        }
    }

    /** The digits, the first one counting most. */
    private static BigInteger digits(int... digits) {
        BigInteger all = BigInteger.ZERO;
        for (int digit : digits) {
            all = all.multiply(BigInteger.valueOf(BASE)).add(BigInteger.valueOf(digit));
        }
        return all;
    }

    private static BigInteger any(int most) {
        int[] digits = new int[pick(most + 1)];
        for (int n = 0; n < digits.length; n++) {
            digits[n] = pick(2) == 0 ? RARE[pick(RARE.length)] : pick(BASE);
        }
        return digits(digits);
    }

    private static void divides(BigInteger a, BigInteger b) throws ReflectiveOperationException {
        Object rest = of(a);
        Object quotient = make();
        method("divide", whole, whole, whole).invoke(rest, of(b), quotient, make());
        if (b.signum() != 0) {
            alike(a + " by " + b, a.divide(b), quotient);
            alike("the rest of " + a + " by " + b, a.mod(b), rest);
        }
    }

    private static void reckons(BigInteger a, BigInteger b) throws ReflectiveOperationException {
        Object out = make();
        Method sum = method("sum", whole, whole, boolean.class);
        sum.invoke(out, of(a), of(b), false);
        alike(a + " and " + b, a.add(b), out);
        sum.invoke(out, of(a), of(b), true);
        alike(a + " less " + b, a.subtract(b), out);
        Object first = of(a);
        sum.invoke(first, first, of(b), true);
        alike(a + " less " + b + ", in the first", a.subtract(b), first);
        Object second = of(b);
        sum.invoke(second, of(a), second, false);
        alike(a + " and " + b + ", in the second", a.add(b), second);
        method("product", whole, whole).invoke(out, of(a), of(b));
        alike(a + " times " + b, a.multiply(b), out);
        int order = (Integer) method("compare", whole, whole).invoke(null, of(a), of(b));
        alike(a + " against " + b, BigInteger.valueOf(a.compareTo(b)), of(BigInteger.valueOf(order)));
    }

    private static void reckonsWithLong(BigInteger a, long small) throws ReflectiveOperationException {
        Object times = of(a);
        method("multiply", long.class).invoke(times, small);
        alike(a + " times " + small, a.multiply(BigInteger.valueOf(small)), times);
        if (small > 0) {
            Object cut = of(a.abs());
            method("cut", long.class).invoke(cut, small);
            alike(a.abs() + " cut by " + small, a.abs().divide(BigInteger.valueOf(small)), cut);
        }
        Object set = make();
        method("set", long.class).invoke(set, small * 7 - 11);
        alike("set", BigInteger.valueOf(small * 7 - 11), set);
    }

    public static void main(String[] args) throws ReflectiveOperationException {
        whole = Class.forName("Treeward$Whole");
        int half = BASE / 2;
        divides(digits(half - 1, half, 0, 0), digits(half, 0, 1));
        divides(digits(half, 0, 0, 0), digits(half, 0, 1));
        divides(digits(3, 0, half), digits(1, 0, half / 4));
        divides(digits(BASE - 1, BASE - 1, 0, BASE - 1), digits(BASE - 1, BASE - 1, BASE - 1));
        divides(digits(1, 0, 0), digits(BASE - 1, BASE - 1));
        divides(digits(5, 0), digits(5));
        divides(digits(4), digits(5, 0));
        divides(BigInteger.ZERO, digits(5, 0));
        divides(digits(5, 0), BigInteger.ZERO);
        for (int n = 0; n < 60000; n++) {
            BigInteger b = any(5);
            BigInteger a = pick(3) == 0 ? b.multiply(any(4)).subtract(BigInteger.valueOf(pick(3))).abs() : any(9);
            divides(a, b);
        }
        for (int n = 0; n < 4000; n++) {
            BigInteger a = pick(2) == 0 ? any(6) : any(6).negate();
            BigInteger b = pick(6) == 0 ? a : pick(2) == 0 ? any(6) : any(6).negate();
            reckons(a, b);
            reckonsWithLong(a, pick(9) == 0 ? 9L * BASE : pick(9) == 0 ? 0 : pick(BASE));
        }
        System.out.println(wrong == 0 ? checks + " numbers are as due" : wrong + " numbers are not as due");
        if (wrong != 0) {
            System.exit(1);
        }
    }
}
