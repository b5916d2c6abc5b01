import java.util.ArrayList;
import java.util.List;
import java.util.function.Supplier;
import java.util.function.ToIntFunction;

/** Calls that are refused: what they answer, and that behind them the net is as it would be without them. */
public final class RefusedTest {
    private static final Due DUE = new Due("RefusedTest");
    private static final int LEAST = Integer.MIN_VALUE;
    private static final int MOST = Integer.MAX_VALUE;

    public static void main(String[] args) {
        theLookSees();
        files();
        puts();
        yanks();
        mirrors();
        speeds();
        falls();
        liars();
        passes();
        costs();
        patience();
        asks();
        fullNets();
        looksChangeNothing();
        DUE.end();
    }

    private static void refused(String call, int due, ToIntFunction<MirrorNet> refusedCall) {
        refusedBy(Nets::busy, call, due, refusedCall);
    }

    private static void refusedBy(Supplier<MirrorNet> maker, String call, int due, ToIntFunction<MirrorNet> refusedCall) {
        MirrorNet x = maker.get();
        DUE.is(call, refusedCall.applyAsInt(x), due);
        DUE.is("behind " + call + " all is as it was", Nets.seen(x).equals(Nets.seen(maker.get())), true);
    }

    /** A look that saw nothing would let every call pass here. */
    private static void theLookSees() {
        List<ToIntFunction<MirrorNet>> taken = new ArrayList<>();
        taken.add(x -> x.file(1));
        taken.add(x -> x.put(0, 1));
        taken.add(x -> x.yank(1));
        taken.add(x -> x.mirror(-1, 1, 0));
        taken.add(x -> x.speed(2, 999));
        taken.add(x -> x.fall(0, 7, 7));
        taken.add(x -> x.lies(1, true) ? 1 : 0);
        taken.add(x -> x.pass(1));
        taken.add(x -> x.cost(5, 2, 0));
        taken.add(x -> x.bears(4, 9998));
        taken.add(x -> x.grace(9998));
        taken.add(x -> x.forgives(0));
        taken.add(x -> x.ask(3, 1));
        for (int k = 0; k < taken.size(); k++) {
            MirrorNet x = Nets.busy();
            taken.get(k).applyAsInt(x);
            DUE.is("the look sees taken call " + k, Nets.seen(x).equals(Nets.seen(Nets.busy())), false);
        }
    }

    private static void files() {
        DUE.says("promise 2", "NONE: there are 60, or another size.");
        for (int size : new int[] {0, 501, -1, LEAST, MOST}) {
            refused("file(" + size + ")", -1, x -> x.file(size));
        }
    }

    private static void puts() {
        DUE.says("promise 3", "NONE: there are 60, no such PACKAGE or FILE, the FILE is YANKED, or the PACKAGE names it already.");
        for (int pack : new int[] {-1, 12, LEAST, MOST}) {
            refused("put(" + pack + ", 1)", -1, x -> x.put(pack, 1));
        }
        for (int file : new int[] {-1, 4, LEAST, MOST}) {
            refused("put(7, " + file + ")", -1, x -> x.put(7, file));
        }
        refused("put of a yanked file", -1, x -> x.put(7, 0));
        refused("put of what it names", -1, x -> x.put(1, 1));
    }

    private static void yanks() {
        DUE.says("promise 4", "NONE: there are 60, no such FILE, or it is YANKED.");
        for (int file : new int[] {-1, 4, LEAST, MOST}) {
            refused("yank(" + file + ")", -1, x -> x.yank(file));
        }
        refused("yank of a yanked file", -1, x -> x.yank(0));
    }

    private static void mirrors() {
        DUE.says("promise 5", "NONE: there are 8, or something is not as told");
        for (int from : new int[] {-2, 3, LEAST, MOST}) {
            refused("mirror(" + from + ", 1, 0)", -1, x -> x.mirror(from, 1, 0));
        }
        for (int speed : new int[] {0, 1001, LEAST, MOST}) {
            refused("mirror(0, " + speed + ", 0)", -1, x -> x.mirror(0, speed, 0));
        }
        for (int keep : new int[] {-1, 4, LEAST, MOST}) {
            refused("mirror(0, 1, " + keep + ")", -1, x -> x.mirror(0, 1, keep));
        }
    }

    private static void speeds() {
        DUE.says("promise 6", "NONE, and nothing happens, for others.");
        for (int mirror : new int[] {-1, 3, LEAST, MOST}) {
            refused("speed(" + mirror + ", 5)", -1, x -> x.speed(mirror, 5));
        }
        for (int speed : new int[] {0, 1001, LEAST, MOST}) {
            refused("speed(0, " + speed + ")", -1, x -> x.speed(0, speed));
        }
    }

    private static void falls() {
        DUE.says("promise 7", "NONE: 40, or something is not as told");
        for (int mirror : new int[] {-1, 3, LEAST, MOST}) {
            refused("fall(" + mirror + ", 7, 7)", -1, x -> x.fall(mirror, 7, 7));
        }
        int[][] ticks = {{6, 7}, {6, 6}, {8, 7}, {7, 6}, {-1, 7}, {7, 10000}, {10000, 10000}, {LEAST, MOST}, {MOST, LEAST}};
        for (int[] one : ticks) {
            refused("fall(0, " + one[0] + ", " + one[1] + ")", -1, x -> x.fall(0, one[0], one[1]));
        }
    }

    private static void liars() {
        DUE.says("promise 8", "whether that changed anything. False without it.");
        refused("lies(2, true) of a liar", 0, x -> x.lies(2, true) ? 1 : 0);
        refused("lies(0, false) of an honest one", 0, x -> x.lies(0, false) ? 1 : 0);
        for (int mirror : new int[] {-1, 3, LEAST, MOST}) {
            refused("lies(" + mirror + ", true)", 0, x -> x.lies(mirror, true) ? 1 : 0);
        }
    }

    private static void passes() {
        DUE.says("promise 9", "NONE, and nothing happens, for others, or beyond 9999.");
        for (int ticks : new int[] {0, -1, 501, LEAST, MOST}) {
            refused("pass(" + ticks + ")", -1, x -> x.pass(ticks));
        }
        refusedBy(() -> lateNet(9998), "pass(2) at 9998", -1, x -> x.pass(2));
        refusedBy(() -> lateNet(9600), "pass(400) at 9600", -1, x -> x.pass(400));
        refusedBy(() -> lateNet(9999), "pass(1) at 9999", -1, x -> x.pass(1));
    }

    /** At this tick a mirror is in the midst of a file. */
    private static MirrorNet lateNet(int tick) {
        MirrorNet x = Nets.withFiles(500);
        x.mirror(-1, 2, 0);
        x.cost(0, 0, 1);
        Nets.goTo(x, tick - 1);
        x.put(0, 0);
        x.pass(1);
        return x;
    }

    private static void costs() {
        DUE.says("promise 10", "-2, and nothing happens, for others.");
        for (int asker : new int[] {-1, 6, LEAST, MOST}) {
            refused("cost(" + asker + ", 0, 5)", -2, x -> x.cost(asker, 0, 5));
        }
        for (int mirror : new int[] {-1, 3, 8, LEAST, MOST}) {
            refused("cost(0, " + mirror + ", 5)", -2, x -> x.cost(0, mirror, 5));
        }
        for (int ticks : new int[] {-2, 101, LEAST, MOST}) {
            refused("cost(0, 0, " + ticks + ")", -2, x -> x.cost(0, 0, ticks));
        }
    }

    private static void patience() {
        DUE.says("promise 11", "NONE, and nothing happens, for others.");
        for (int asker : new int[] {-1, 6, LEAST, MOST}) {
            refused("bears(" + asker + ", 5)", -1, x -> x.bears(asker, 5));
        }
        for (int age : new int[] {-1, 10000, LEAST, MOST}) {
            refused("bears(0, " + age + ")", -1, x -> x.bears(0, age));
        }
        DUE.says("promise 12", "NONE, and nothing happens, for others.");
        for (int ticks : new int[] {-1, 10000, LEAST, MOST}) {
            refused("grace(" + ticks + ")", -1, x -> x.grace(ticks));
        }
        DUE.says("promise 13", "NONE without him.");
        for (int asker : new int[] {-1, 6, LEAST, MOST}) {
            refused("forgives(" + asker + ")", -1, x -> x.forgives(asker));
        }
    }

    private static void asks() {
        DUE.says("promise 14", "NONE, and nothing happens, for others.");
        for (int asker : new int[] {-1, 6, LEAST, MOST}) {
            refused("ask(" + asker + ", 1)", -1, x -> x.ask(asker, 1));
        }
        for (int packages : new int[] {0, -1, 4096, LEAST, MOST}) {
            refused("ask(0, " + packages + ")", -1, x -> x.ask(0, packages));
        }
    }

    private static void fullNets() {
        DUE.says("promise 2", "NONE: there are 60");
        refusedBy(() -> Nets.addMirrors(Nets.withBytes(60), 1), "file(1)", -1, x -> x.file(1));
        DUE.says("promise 3", "NONE: there are 60");
        refusedBy(RefusedTest::fullOfStates, "put(0, 1)", -1, x -> x.put(0, 1));
        DUE.says("promise 4", "NONE: there are 60");
        refusedBy(RefusedTest::fullOfStates, "yank(0)", -1, x -> x.yank(0));
        DUE.says("promise 5", "NONE: there are 8");
        refusedBy(() -> Nets.addMirrors(Nets.withFiles(9), 8), "mirror(-1, 1, 0)", -1, x -> x.mirror(-1, 1, 0));
        DUE.says("promise 7", "NONE: 40");
        refusedBy(RefusedTest::fullOfFalls, "fall(0, 0, 0)", -1, x -> x.fall(0, 0, 0));
    }

    private static MirrorNet fullOfStates() {
        MirrorNet x = Nets.addMirrors(Nets.withFiles(1, 2, 3), 1);
        for (int k = 1; k < 60; k++) {
            x.put(4, k % 2);
        }
        return x;
    }

    private static MirrorNet fullOfFalls() {
        MirrorNet x = Nets.addMirrors(Nets.withFiles(1), 2);
        x.put(0, 0);
        for (int k = 0; k < 40; k++) {
            x.fall(1, k, k);
        }
        return x;
    }

    private static void looksChangeNothing() {
        DUE.says("Not promised", "Nothing is promised beyond the answers and state changes described above");
        for (int what = -2; what < 11; what++) {
            int w = what;
            refused("asked(" + w + ") behind an ask", Nets.busy().asked(w), x -> x.asked(w));
            refused("got(0, " + w + ")", Nets.busy().got(0, w), x -> x.got(0, w));
            refused("asker(0, " + w + ")", Nets.busy().asker(0, w), x -> x.asker(0, w));
            refused("names(2, " + w + ")", Nets.busy().names(2, w), x -> x.names(2, w));
            refused("state(2, " + w + ")", Nets.busy().state(2, w), x -> x.state(2, w));
            refused("about(0, " + w + ")", Nets.busy().about(0, w), x -> x.about(0, w));
            refused("has(0, " + w + ")", Nets.busy().has(0, w), x -> x.has(0, w));
            refused("count(" + w + ")", Nets.busy().count(w), x -> x.count(w));
        }
    }
}
