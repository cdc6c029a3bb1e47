import java.lang.reflect.InvocationTargetException;
import java.lang.reflect.Method;
import java.util.Arrays;
import java.util.Random;

/** No call throws, whatever its arguments and whatever came before, nor beyond the 512th call. */
final class AnyArgumentsTest {
    private static final int[] EDGES = {
        Integer.MIN_VALUE, Integer.MIN_VALUE + 1, -31, -6, -5, -4, -3, -2, -1, 0, 1, 2, 3, 4, 5, 9, 10, 11, 12,
        13, 29, 30, 31, 32, 33, 39, 40, 41, 59, 60, 61, 63, 64, 65, 120, Integer.MAX_VALUE - 1, Integer.MAX_VALUE
    };
    private static final Due due = new Due("AnyArgumentsTest");

    public static void main(String[] args) throws IllegalAccessException {
        Method[] calls = PackageModules.class.getDeclaredMethods();
        Arrays.sort(calls, (a, b) -> a.getName().compareTo(b.getName()));
        for (int run = 0; run < 60; run++) {
            anyCalls(calls, run);
        }
        everyPairThatFits();
        due.end();
    }

    private static void anyCalls(Method[] calls, int run) throws IllegalAccessException {
        Random random = new Random(run);
        PackageModules x = new PackageModules();
        for (int k = 0; k < 12000; k++) {
            Method call = calls[random.nextInt(calls.length)];
            if (java.lang.reflect.Modifier.isPublic(call.getModifiers())) {
                throwsNothing(x, call, anyArguments(call, random));
            }
        }
        for (int what = 0; what < 6; what++) {
            int most = new int[] {12, 30, 40, 60, 12, 4}[what];
            due.is("run " + run + " at most " + most + " of " + what, 1, x.count(what) <= most ? 1 : 0);
        }
    }

    private static Object[] anyArguments(Method call, Random random) {
        Class<?>[] kinds = call.getParameterTypes();
        Object[] given = new Object[kinds.length];
        boolean wild = random.nextInt(4) == 0;
        for (int k = 0; k < kinds.length; k++) {
            if (kinds[k] == boolean.class) {
                given[k] = random.nextBoolean();
            } else {
                given[k] = wild ? EDGES[random.nextInt(EDGES.length)] : random.nextInt(14) - 1;
            }
        }
        return given;
    }

    private static void throwsNothing(PackageModules x, Method call, Object[] given) throws IllegalAccessException {
        try {
            int answer = (Integer) call.invoke(x, given);
            due.is(call.getName() + Arrays.toString(given) + " is above -19", 1, answer >= -18 ? 1 : 0);
        } catch (InvocationTargetException thrown) {
            due.is(call.getName() + Arrays.toString(given) + " threw " + thrown.getCause(), 0, 1);
        }
    }

    /** Far more than 512 calls: as many providers as there can be. */
    private static void everyPairThatFits() {
        PackageModules x = new PackageModules();
        x.module();
        x.pack(0, 0);
        x.pack(0, 1);
        for (int k = 0; k < 40; k++) {
            x.type(k % 2, k / 2, 0, 3, k - 1);
            x.member(k, 0, 1, true, k);
        }
        int told = 0;
        for (int service = 0; service < 40; service++) {
            for (int type = 0; type < 40; type++) {
                told += x.provides(0, service, type) == 1 ? 1 : 0;
            }
            x.uses(0, service);
        }
        due.is("pairs", 820, told);
        due.is("the last", 39, x.provider(0, 39, 0));
        due.is("the fortieth of the first", 39, x.provider(0, 0, 39));
    }
}
