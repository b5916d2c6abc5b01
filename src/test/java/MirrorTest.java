/** Promises 5 to 9, 20 and 21: mirrors, their ticks and falls. */
public final class MirrorTest {
    private static final int LEAST = Integer.MIN_VALUE;
    private static final int MOST = Integer.MAX_VALUE;
    private static final Due DUE = new Due("MirrorTest");

    public static void main(String[] args) {
        mirrors();
        speeds();
        falls();
        liars();
        passes();
        copying();
        severalFilesInATick();
        chains();
        fallen();
        sourceFallen();
        targetGone();
        targetGoneOnlyWithBytesToGo();
        laterTargetWaits();
        keeps();
        leftOversGo();
        nothingToCopy();
        abouts();
        has();
        DUE.end();
    }

    /** A net whose files have these sizes. */
    private static MirrorNet withFiles(int... sizes) {
        MirrorNet x = new MirrorNet();
        for (int size : sizes) {
            x.file(size);
        }
        return x;
    }

    /** INDEX, TARGET, FILES, bytes of these, DONE, bytes taken, bytes wanted. */
    private static void looks(MirrorNet x, String when, int mirror, int... due) {
        int[] whats = {0, 1, 2, 3, 4, 5, 8};
        for (int k = 0; k < due.length; k++) {
            DUE.is(when + ": about(" + mirror + ", " + whats[k] + ")", x.about(mirror, whats[k]), due[k]);
        }
    }

    private static void mirrors() {
        DUE.promise(5);
        MirrorNet x = new MirrorNet();
        DUE.is("from itself", x.mirror(0, 1, 0), -1);
        for (int odd : new int[] {-2, 1, 8, LEAST, MOST}) {
            DUE.is("from " + odd, x.mirror(odd, 1, 0), -1);
        }
        for (int odd : new int[] {0, -1, 1001, LEAST, MOST}) {
            DUE.is("of speed " + odd, x.mirror(-1, odd, 0), -1);
        }
        for (int odd : new int[] {-1, 4, LEAST, MOST}) {
            DUE.is("with keep " + odd, x.mirror(-1, 1, odd), -1);
        }
        DUE.is("count(3)", x.count(3), 0);
        DUE.is("mirror 0", x.mirror(-1, 1, 0), 0);
        DUE.is("mirror 1", x.mirror(0, 1000, 3), 1);
        DUE.is("from one that is not yet", x.mirror(2, 1, 0), -1);
        for (int k = 2; k < 8; k++) {
            DUE.is("mirror " + k, x.mirror(k - 1, 5, 1), k);
        }
        DUE.is("mirror beyond 8", x.mirror(-1, 1, 0), -1);
        DUE.is("count(3)", x.count(3), 8);
    }

    private static void speeds() {
        DUE.promise(6);
        MirrorNet x = withFiles(100);
        x.mirror(-1, 7, 0);
        for (int odd : new int[] {0, -1, 1001, LEAST, MOST}) {
            DUE.is("speed(0, " + odd + ")", x.speed(0, odd), -1);
        }
        for (int odd : new int[] {-1, 1, 8, LEAST, MOST}) {
            DUE.is("speed(" + odd + ", 5)", x.speed(odd, 5), -1);
        }
        x.put(0, 0);
        x.pass(1);
        DUE.is("bytes at the old speed", x.about(0, 5), 7);
        DUE.is("speed(0, 20)", x.speed(0, 20), 7);
        x.pass(2);
        DUE.is("bytes at the new speed", x.about(0, 5), 47);
        DUE.is("speed(0, 1000)", x.speed(0, 1000), 20);
        DUE.is("speed(0, 1)", x.speed(0, 1), 1000);
    }

    private static void falls() {
        DUE.promise(7);
        MirrorNet x = new MirrorNet();
        DUE.is("fall without a mirror", x.fall(0, 0, 0), -1);
        x.mirror(-1, 1, 0);
        x.pass(10);
        for (int odd : new int[] {-1, 1, LEAST, MOST}) {
            DUE.is("fall of " + odd, x.fall(odd, 10, 20), -1);
        }
        DUE.is("behind now", x.fall(0, 9, 20), -1);
        DUE.is("all behind now", x.fall(0, 3, 4), -1);
        DUE.is("not in order", x.fall(0, 20, 19), -1);
        DUE.is("from beyond", x.fall(0, 10000, 10000), -1);
        DUE.is("to beyond", x.fall(0, 10, 10000), -1);
        DUE.is("to far beyond", x.fall(0, 10, MOST), -1);
        DUE.is("from far below", x.fall(0, LEAST, 20), -1);
        DUE.is("count(4)", x.count(4), 0);
        DUE.is("from now to now", x.fall(0, 10, 10), 1);
        DUE.is("to the last tick", x.fall(0, 9999, 9999), 2);
        for (int k = 3; k <= 40; k++) {
            DUE.is("fall " + k, x.fall(0, 11, 12), k);
        }
        DUE.is("fall 41", x.fall(0, 11, 12), -1);
        DUE.is("count(4)", x.count(4), 40);
    }

    private static void liars() {
        DUE.promise(8);
        MirrorNet x = withFiles(5);
        DUE.is("lies without a mirror", x.lies(0, true), false);
        x.mirror(-1, 5, 0);
        x.mirror(0, 5, 0);
        DUE.is("lies(0, false)", x.lies(0, false), false);
        DUE.is("lies(0, true)", x.lies(0, true), true);
        DUE.is("lies(0, true) again", x.lies(0, true), false);
        DUE.is("about(0, 7)", x.about(0, 7), 1);
        DUE.is("about(1, 7)", x.about(1, 7), 0);
        x.put(0, 0);
        x.pass(1);
        DUE.is("a liar copies", x.about(0, 0), 1);
        DUE.is("and is copied from", x.about(1, 0), 1);
        DUE.is("lies(0, false)", x.lies(0, false), true);
        DUE.is("about(0, 7)", x.about(0, 7), 0);
        for (int odd : new int[] {-1, 2, LEAST, MOST}) {
            DUE.is("lies(" + odd + ", true)", x.lies(odd, true), false);
        }
    }

    private static void passes() {
        DUE.promise(9);
        MirrorNet x = new MirrorNet();
        for (int odd : new int[] {0, -1, 501, LEAST, MOST}) {
            DUE.is("pass(" + odd + ")", x.pass(odd), -1);
        }
        DUE.is("count(0)", x.count(0), 0);
        DUE.is("pass(1)", x.pass(1), 1);
        for (int k = 1; k < 20; k++) {
            DUE.is("pass(500)", x.pass(500), 1 + 500 * k);
        }
        DUE.is("pass(499)", x.pass(499), -1);
        DUE.is("pass(498)", x.pass(498), 9999);
        DUE.is("pass(1)", x.pass(1), -1);
        DUE.is("count(0)", x.count(0), 9999);
    }

    private static void copying() {
        DUE.promise(9);
        MirrorNet x = withFiles(5, 9);
        x.mirror(-1, 4, 0);
        x.put(0, 1);
        x.put(1, 0);
        looks(x, "at first", 0, 0, -1, 0, 0, 0, 0, -1);
        x.pass(1);
        looks(x, "the least file comes first", 0, 0, 2, 0, 0, 4, 4, 10);
        x.pass(1);
        looks(x, "whole, and on with the next", 0, 0, 2, 1, 5, 3, 8, 6);
        x.pass(1);
        looks(x, "on", 0, 0, 2, 1, 5, 7, 12, 2);
        x.pass(1);
        looks(x, "the index comes with the last byte", 0, 2, -1, 2, 14, 0, 14, -1);
        x.pass(5);
        looks(x, "nothing later", 0, 2, -1, 2, 14, 0, 14, -1);
    }

    private static void severalFilesInATick() {
        DUE.promise(9);
        MirrorNet x = withFiles(2, 3, 5, 4);
        x.mirror(-1, 10, 0);
        for (int k = 0; k < 4; k++) {
            x.put(k, k);
        }
        x.put(9, 2);
        x.pass(1);
        looks(x, "three whole files", 0, 0, 5, 3, 10, 0, 10, 4);
        x.pass(1);
        looks(x, "the last one", 0, 5, -1, 4, 14, 0, 14, -1);
    }

    private static void chains() {
        DUE.promise(9);
        MirrorNet x = withFiles(6);
        x.mirror(-1, 6, 0);
        x.mirror(0, 6, 0);
        x.mirror(1, 3, 0);
        x.put(0, 0);
        x.pass(1);
        looks(x, "by numbers, in one tick", 0, 1);
        looks(x, "by numbers, in one tick", 1, 1, -1, 1, 6, 0, 6);
        looks(x, "by numbers, in one tick", 2, 0, 1, 0, 0, 3, 3, 3);
        x.pass(1);
        looks(x, "a tick later", 2, 1, -1, 1, 6, 0, 6, -1);
    }

    private static void fallen() {
        DUE.promise(9);
        MirrorNet x = withFiles(10);
        x.mirror(-1, 3, 0);
        x.put(0, 0);
        x.pass(2);
        x.fall(0, 2, 3);
        looks(x, "fallen, but no tick has gone by", 0, 0, 1, 0, 0, 6, 6, 4);
        x.pass(1);
        looks(x, "a fallen one's DONE is 0, its TARGET stays", 0, 0, 1, 0, 0, 0, 6, 10);
        DUE.is("fallen in its last tick too", x.about(0, 6), 1);
        x.pass(1);
        looks(x, "the last tick of the fall", 0, 0, 1, 0, 0, 0, 6, 10);
        DUE.is("back", x.about(0, 6), 0);
        x.pass(3);
        looks(x, "from the start", 0, 0, 1, 0, 0, 9, 15, 1);
        x.pass(1);
        looks(x, "whole", 0, 1, -1, 1, 10, 0, 16, -1);
    }

    private static void sourceFallen() {
        DUE.promise(9);
        MirrorNet x = withFiles(10);
        x.mirror(-1, 10, 0);
        x.mirror(0, 3, 0);
        x.mirror(1, 3, 0);
        x.put(0, 0);
        x.pass(1);
        x.fall(0, 1, 2);
        x.pass(2);
        looks(x, "behind a fallen one DONE stays", 1, 0, 1, 0, 0, 3, 3, 7);
        x.pass(3);
        looks(x, "and goes on", 1, 1, -1, 1, 10, 0, 10, -1);
        DUE.is("two behind: its own source matters alone", x.about(2, 5), 3);
    }

    private static void targetGone() {
        DUE.promise(9);
        MirrorNet x = withFiles(10, 4);
        x.mirror(-1, 10, 0);
        x.mirror(0, 3, 0);
        x.put(0, 0);
        x.pass(1);
        looks(x, "copying state 1", 1, 0, 1, 0, 0, 3, 3, 7);
        x.put(0, 1);
        x.pass(1);
        looks(x, "the source has dropped the file", 0, 2, -1, 1, 4);
        looks(x, "so the TARGET is gone, and the tick is over", 1, 0, -1, 0, 0, 0, 3, -1);
        x.pass(1);
        looks(x, "the next tick takes the new one", 1, 0, 2, 0, 0, 3, 6, 1);
        x.pass(1);
        looks(x, "whole", 1, 2, -1, 1, 4, 0, 7, -1);
    }

    private static void targetGoneOnlyWithBytesToGo() {
        DUE.promise(9);
        MirrorNet x = withFiles(6, 5, 4);
        x.mirror(-1, 1000, 0);
        x.mirror(0, 3, 0);
        x.put(0, 0);
        x.put(1, 1);
        x.pass(1);
        looks(x, "half of the first file", 1, 0, 2, 0, 0, 3, 3, 8);
        x.put(1, 2);
        x.pass(1);
        looks(x, "the source has dropped the second", 0, 3, -1, 2, 10);
        looks(x, "the first is whole, no byte is left to go", 1, 0, 2, 1, 6, 0, 6, 5);
        x.pass(1);
        looks(x, "gone, what is whole stays", 1, 0, -1, 1, 6, 0, 6, -1);
        x.pass(1);
        looks(x, "the new one", 1, 0, 3, 1, 6, 3, 9, 1);
    }

    private static void laterTargetWaits() {
        DUE.promise(9);
        MirrorNet x = withFiles(6, 6);
        x.mirror(-1, 3, 0);
        x.put(0, 0);
        x.pass(1);
        x.put(0, 1);
        x.pass(1);
        looks(x, "the TARGET it has is ended first", 0, 1, -1, 1, 6, 0, 6, -1);
        x.pass(1);
        looks(x, "then the latest", 0, 1, 2, 1, 6, 3, 9, 3);
        x.pass(1);
        looks(x, "what is old is dropped", 0, 2, -1, 1, 6, 0, 12, -1);
        DUE.is("has(0, 0)", x.has(0, 0), 0);
        DUE.is("has(0, 1)", x.has(0, 1), 1);
    }

    private static void keeps() {
        DUE.promise(9);
        for (int keep = 0; keep <= 3; keep++) {
            MirrorNet x = withFiles(1, 2, 3, 4, 5, 6);
            x.mirror(-1, 1000, keep);
            for (int k = 0; k < 6; k++) {
                x.put(0, k);
                x.pass(1);
            }
            for (int k = 0; k < 6; k++) {
                DUE.is("keep " + keep + ", has(0, " + k + ")", x.has(0, k), k >= 5 - keep ? 1 : 0);
            }
        }
        MirrorNet x = withFiles(1, 2, 3, 4);
        x.mirror(-1, 1000, 1);
        x.put(0, 0);
        x.pass(1);
        x.put(0, 1);
        x.put(0, 2);
        x.pass(1);
        DUE.is("the index it had, not the state ahead", x.has(0, 0), 1);
        DUE.is("a state it never had", x.has(0, 1), 0);
        x.put(0, 3);
        x.pass(1);
        DUE.is("two indexes ago", x.has(0, 0), 0);
        DUE.is("one index ago", x.has(0, 2), 1);
    }

    private static void leftOversGo() {
        DUE.promise(9);
        MirrorNet x = withFiles(3, 5, 4);
        x.mirror(-1, 1000, 0);
        x.mirror(0, 4, 3);
        x.put(0, 0);
        x.put(1, 1);
        x.pass(1);
        DUE.is("file 0 of the TARGET", x.has(1, 0), 1);
        x.put(0, 2);
        x.yank(1);
        x.pass(1);
        looks(x, "gone", 1, 0, -1, 1, 3, 0, 4, -1);
        x.pass(1);
        looks(x, "no index of its names file 0", 1, 4, -1, 1, 4, 0, 8, -1);
    }

    private static void nothingToCopy() {
        DUE.promise(9);
        MirrorNet x = withFiles(3, 5);
        x.mirror(-1, 1, 0);
        x.yank(0);
        x.pass(1);
        looks(x, "a state that names nothing is taken at once", 0, 1, -1, 0, 0, 0, 0, -1);
        x.put(4, 1);
        x.pass(5);
        x.put(5, 1);
        x.pass(1);
        looks(x, "a state whose files it has", 0, 3, -1, 1, 5, 0, 5, -1);
        x.yank(1);
        x.pass(1);
        looks(x, "a yanked file goes", 0, 4, -1, 0, 0, 0, 5, -1);
    }

    private static void abouts() {
        DUE.promise(20);
        MirrorNet x = withFiles(10, 20);
        DUE.is("without a mirror", x.about(0, 0), -1);
        x.mirror(-1, 12, 0);
        x.mirror(-1, 1, 0);
        x.put(0, 0);
        x.put(1, 1);
        x.put(2, 1);
        x.lies(0, true);
        x.fall(0, 2, 4);
        x.fall(0, 6, 6);
        x.pass(1);
        int[] due = {0, 3, 1, 10, 2, 12, 0, 1, 18};
        for (int what = 0; what < due.length; what++) {
            DUE.is("about(0, " + what + ")", x.about(0, what), due[what]);
        }
        int[] down = {0, 1, 1, 1, 0, 1, 0, 0};
        for (int tick = 1; tick < 9; tick++) {
            DUE.is("FALLEN at " + tick, x.about(0, 6), down[tick - 1]);
            DUE.is("the other at " + tick, x.about(1, 6), 0);
            x.pass(1);
        }
        for (int odd : new int[] {-1, 9, LEAST, MOST}) {
            DUE.is("about(0, " + odd + ")", x.about(0, odd), -1);
        }
        for (int odd : new int[] {-1, 2, 8, LEAST, MOST}) {
            DUE.is("about(" + odd + ", 0)", x.about(odd, 0), -1);
        }
    }

    private static void has() {
        DUE.promise(21);
        MirrorNet x = withFiles(10, 20);
        x.mirror(-1, 500, 0);
        x.put(0, 1);
        DUE.is("has(0, 1) ahead", x.has(0, 1), 0);
        x.pass(1);
        DUE.is("has(0, 1)", x.has(0, 1), 1);
        DUE.is("has(0, 0)", x.has(0, 0), 0);
        for (int odd : new int[] {-1, 2, 60, 64, 65, LEAST, MOST}) {
            DUE.is("has(0, " + odd + ")", x.has(0, odd), -1);
            DUE.is("has(" + odd + ", 1)", x.has(odd, 1), -1);
        }
        MirrorNet y = new MirrorNet();
        for (int k = 0; k < 60; k++) {
            y.file(1);
        }
        y.mirror(-1, 1, 0);
        y.put(0, 59);
        y.pass(1);
        DUE.is("the last file", y.has(0, 59), 1);
        DUE.is("and it alone", y.about(0, 2), 1);
    }
}
