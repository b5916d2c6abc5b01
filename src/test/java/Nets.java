import java.util.ArrayList;
import java.util.List;

/** Nets to start a test with, and all that can be seen of one. */
final class Nets {
    /** Numbers that are never a file, a package, a state, a mirror or an asker; some are 0 again if cut to bits. */
    static final int[] NEVER = {-1, -2, -12, -64, 60, 64, 10000, 1 << 16, Integer.MIN_VALUE, Integer.MAX_VALUE};

    private Nets() { }

    static MirrorNet withFiles(int... sizes) {
        MirrorNet x = new MirrorNet();
        for (int size : sizes) {
            x.file(size);
        }
        return x;
    }

    /** So many files of one byte. */
    static MirrorNet withBytes(int files) {
        MirrorNet x = new MirrorNet();
        for (int k = 0; k < files; k++) {
            x.file(1);
        }
        return x;
    }

    /** So many mirrors, each of the shelf and fast. */
    static MirrorNet addMirrors(MirrorNet x, int mirrors) {
        for (int k = 0; k < mirrors; k++) {
            x.mirror(-1, 1000, 0);
        }
        return x;
    }

    /** NOW becomes tick, which is no earlier. */
    static MirrorNet goTo(MirrorNet x, int tick) {
        while (x.count(0) < tick) {
            x.pass(Math.min(500, tick - x.count(0)));
        }
        return x;
    }

    /** At tick 7: 4 files, 6 states, 3 mirrors of which two are in the midst of a file, a liar found out, an ask. */
    static MirrorNet busy() {
        MirrorNet x = withFiles(10, 20, 30, 400);
        x.put(0, 0);
        x.put(1, 1);
        x.mirror(-1, 8, 1);
        x.mirror(0, 3, 0);
        x.mirror(-1, 1000, 3);
        x.cost(0, 0, 4);
        x.cost(0, 2, 1);
        x.cost(1, 1, 100);
        x.bears(1, 30);
        x.grace(50);
        x.lies(2, true);
        x.pass(5);
        x.ask(0, 3);
        x.put(2, 3);
        x.put(3, 2);
        x.yank(0);
        x.fall(1, 8, 9);
        x.pass(2);
        return x;
    }

    /** All that the calls tell of a net, what a tick makes of it, its speeds and costs: the net is of no use after. */
    static List<Integer> seen(MirrorNet x) {
        List<Integer> seen = new ArrayList<>();
        for (int what = 0; what < 7; what++) {
            seen.add(x.count(what));
        }
        seeStates(x, seen);
        seeMirrors(x, seen);
        seeAskers(x, seen);
        x.pass(1);
        seeMirrors(x, seen);
        for (int m = 0; m < x.count(3); m++) {
            seen.add(x.speed(m, 1));
            for (int a = 0; a < 6; a++) {
                seen.add(x.cost(a, m, -1));
            }
        }
        return seen;
    }

    /** A full net has more than can be seen in 512 calls: of many the first and the last ones. */
    private static List<Integer> someOf(int many) {
        List<Integer> some = new ArrayList<>();
        for (int k = 0; k <= many; k++) {
            if (k < 3 || k > many - 3) {
                some.add(k);
            }
        }
        return some;
    }

    private static void seeStates(MirrorNet x, List<Integer> seen) {
        for (int k : someOf(x.count(2))) {
            for (int what = 0; what < 4; what++) {
                seen.add(x.state(k, what));
            }
            for (int pack = 0; pack < 12; pack++) {
                seen.add(x.names(k, pack));
            }
        }
    }

    private static void seeMirrors(MirrorNet x, List<Integer> seen) {
        for (int m = 0; m < x.count(3); m++) {
            for (int what = 0; what < 9; what++) {
                seen.add(x.about(m, what));
            }
            for (int file : someOf(x.count(1))) {
                seen.add(x.has(m, file));
            }
        }
    }

    private static void seeAskers(MirrorNet x, List<Integer> seen) {
        for (int a = 0; a < 6; a++) {
            for (int what = 0; what < 3; what++) {
                seen.add(x.asker(a, what));
            }
        }
        for (int what = 0; what < 6; what++) {
            seen.add(x.asked(what));
        }
        for (int k = 0; k <= x.asked(3); k++) {
            for (int what = 0; what < 3; what++) {
                seen.add(x.got(k, what));
            }
        }
    }
}
