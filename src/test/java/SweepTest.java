import java.lang.reflect.Method;
import java.util.Arrays;

/** Every call with every mix of edge numbers, on an empty net and on a busy one, held against PlainNet. */
public final class SweepTest {
    private static final Due DUE = new Due("SweepTest");

    private static final int[] MANY = {
        Integer.MIN_VALUE, -65536, -64, -12, -2, -1, 0, 1, 2, 3, 4, 5, 6, 7, 8, 9, 11, 12, 31, 32, 40, 59, 60, 64,
        99, 100, 101, 499, 500, 501, 999, 1000, 1001, 4095, 4096, 9992, 9993, 9998, 9999, 10000, 65536, Integer.MAX_VALUE};
    private static final int[] SOME = {
        Integer.MIN_VALUE, -2, -1, 0, 1, 2, 3, 4, 5, 6, 7, 8, 12, 100, 101, 1000, 1001, 9999, 10000, Integer.MAX_VALUE};

    public static void main(String[] args) throws ReflectiveOperationException {
        for (Method call : MirrorNet.class.getDeclaredMethods()) {
            if (java.lang.reflect.Modifier.isPublic(call.getModifiers())) {
                Method plain = PlainNet.class.getDeclaredMethod(call.getName(), call.getParameterTypes());
                sweep(call, plain, call.getParameterCount() == 3 ? SOME : MANY, new Object[call.getParameterCount()], 0);
            }
        }
        DUE.end();
    }

    private static void sweep(Method call, Method plain, int[] numbers, Object[] args, int at)
        throws ReflectiveOperationException {
        if (at == args.length) {
            hold(call, plain, args);
        } else if (call.getParameterTypes()[at] == boolean.class) {
            for (boolean is : new boolean[] {false, true}) {
                args[at] = is;
                sweep(call, plain, numbers, args, at + 1);
            }
        } else {
            for (int number : numbers) {
                args[at] = number;
                sweep(call, plain, numbers, args, at + 1);
            }
        }
    }

    private static void hold(Method call, Method plain, Object[] args) throws ReflectiveOperationException {
        same("empty net", call, args, call.invoke(new MirrorNet(), args), plain.invoke(new PlainNet(), args));
        MirrorNet x = Nets.busy();
        PlainNet y = plainBusy();
        same("busy net", call, args, call.invoke(x, args), plain.invoke(y, args));
        for (int what = 0; what < 7; what++) {
            same("behind it, count", call, args, x.count(what), y.count(what));
        }
    }

    private static void same(String when, Method call, Object[] args, Object got, Object want) {
        boolean as = got.equals(want);
        DUE.is(as ? "" : when + ": " + call.getName() + Arrays.toString(args) + " is " + got + ", not " + want, as, true);
    }

    /** The same as Nets.busy(). */
    private static PlainNet plainBusy() {
        PlainNet x = new PlainNet();
        for (int size : new int[] {10, 20, 30, 400}) {
            x.file(size);
        }
        x.put(0, 0);
        x.put(1, 1);
        x.mirror(-1, 8, 1);
        x.mirror(0, 3, 0);
        x.mirror(-1, 1000, 3);
        x.cost(0, 0, 4);
        x.cost(0, 2, 1);
        x.cost(1, 1, 100);
        x.bears(1, 30);
        x.grace(50);
        x.lies(2, true);
        x.pass(5);
        x.ask(0, 3);
        x.put(2, 3);
        x.put(3, 2);
        x.yank(0);
        x.fall(1, 8, 9);
        x.pass(2);
        return x;
    }
}
