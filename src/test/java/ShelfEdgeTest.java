/** The edges of files, packages and states: Terms I, promises 1 to 4, 18, 19 and 22. */
public final class ShelfEdgeTest {
    private static final Due DUE = new Due("ShelfEdgeTest");

    public static void main(String[] args) {
        emptyObject();
        nowAtBothEnds();
        sixtyFiles();
        sizes();
        packages();
        filesToPut();
        namesItAlready();
        yankedIsNotPut();
        sixtyStates();
        sixtyStatesByYanks();
        stateZero();
        oneFileForAPackage();
        asTheOneAhead();
        yankOfAll();
        filesToYank();
        yankedTwice();
        ticksOfStates();
        ageOfTheLatest();
        ageOfOthers();
        namesWithoutThese();
        statesWithoutThese();
        emptyAndFullStates();
        countsAtBothEnds();
        DUE.end();
    }

    private static void emptyObject() {
        DUE.says("promise 1", "No FILES, no MIRRORS; TICK 0.");
        int[] due = {0, 0, 1, 0, 0, 9999, 0};
        for (int what = 0; what < 7; what++) {
            DUE.is("count(" + what + ") at first", new MirrorNet().count(what), due[what]);
        }
        MirrorNet x = new MirrorNet();
        DUE.is("put of no file", x.put(0, 0), -1);
        DUE.is("yank of no file", x.yank(0), -1);
        DUE.is("speed of no mirror", x.speed(0, 1), -1);
        DUE.is("fall of no mirror", x.fall(0, 0, 0), -1);
        DUE.is("lies of no mirror", x.lies(0, true), false);
        DUE.is("cost of no mirror", x.cost(0, 0, 1), -2);
        DUE.is("about no mirror", x.about(0, 0), -1);
        DUE.is("has of no mirror", x.has(0, 0), -1);
        DUE.is("ask of no mirror", x.ask(0, 1), 1);
        DUE.is("an empty net passes", x.pass(500), 500);
    }

    private static void nowAtBothEnds() {
        DUE.says("Terms I", "NOW is a TICK, 0 to 9999 (0 at first)");
        MirrorNet x = new MirrorNet();
        DUE.is("NOW at first", x.count(0), 0);
        Nets.goTo(x, 9999);
        DUE.is("NOW at last", x.count(0), 9999);
        DUE.is("no tick behind it", x.pass(1), -1);
        DUE.is("NOW still", x.count(0), 9999);
    }

    private static void sixtyFiles() {
        DUE.says("Terms I", "FILES 0 to 59");
        MirrorNet x = new MirrorNet();
        for (int k = 0; k <= 58; k++) {
            DUE.is("file " + k, x.file(1), k);
        }
        DUE.is("the last file", x.file(1), 59);
        DUE.says("promise 2", "NONE: there are 60");
        DUE.is("file(1) when there are 60", x.file(1), -1);
        DUE.is("file(500) when there are 60", x.file(500), -1);
        DUE.is("file(0) when there are 60", x.file(0), -1);
        DUE.is("there are 60 still", x.count(1), 60);
        DUE.is("the last one can be put", x.put(0, 59), 1);
        DUE.is("one more can't", x.put(0, 60), -1);
    }

    private static void sizes() {
        DUE.says("Terms I", "each of a size (1 to 500 bytes)");
        MirrorNet x = new MirrorNet();
        DUE.is("file(1)", x.file(1), 0);
        DUE.is("file(500)", x.file(500), 1);
        DUE.says("promise 2", "or another size");
        for (int size : new int[] {0, 501, -1, -500, 1000, 65537, Integer.MIN_VALUE, Integer.MAX_VALUE}) {
            DUE.is("file(" + size + ")", x.file(size), -1);
        }
        DUE.is("a refused one takes no number", x.file(2), 2);
        x.put(0, 0);
        x.put(0, 1);
        DUE.is("bytes of file 0", x.state(1, 3), 1);
        DUE.is("bytes of file 1", x.state(2, 3), 500);
    }

    private static void packages() {
        DUE.says("Terms I", "PACKAGES 0 to 11");
        MirrorNet x = Nets.withFiles(10);
        DUE.is("put(0, 0)", x.put(0, 0), 1);
        DUE.is("put(11, 0)", x.put(11, 0), 2);
        DUE.is("names(2, 0)", x.names(2, 0), 0);
        DUE.is("names(2, 11)", x.names(2, 11), 0);
        DUE.says("promise 3", "no such PACKAGE");
        DUE.is("put(12, 0)", x.put(12, 0), -1);
        DUE.is("put(-1, 0)", x.put(-1, 0), -1);
        for (int odd : Nets.NEVER) {
            DUE.is("put(" + odd + ", 0)", x.put(odd, 0), -1);
        }
        DUE.is("no state has come", x.count(2), 3);
    }

    private static void filesToPut() {
        DUE.says("promise 3", "no such PACKAGE or FILE");
        DUE.is("put(0, 0) without files", new MirrorNet().put(0, 0), -1);
        MirrorNet x = Nets.withFiles(1, 1, 1);
        DUE.is("put of the file behind the last", x.put(0, 3), -1);
        for (int odd : Nets.NEVER) {
            DUE.is("put(0, " + odd + ")", x.put(0, odd), -1);
        }
        DUE.is("put(12, 3): neither", x.put(12, 3), -1);
        DUE.is("no state has come", x.count(2), 1);
        DUE.is("put of the last file", x.put(0, 2), 1);
        DUE.is("put of the first file", x.put(0, 0), 2);
        x.file(1);
        DUE.is("put of it when it has come", x.put(0, 3), 3);
    }

    private static void namesItAlready() {
        DUE.says("promise 3", "or the PACKAGE names it already");
        MirrorNet x = Nets.withFiles(1, 1);
        DUE.is("put(4, 0)", x.put(4, 0), 1);
        DUE.is("put(4, 0) at once again", x.put(4, 0), -1);
        x.pass(100);
        DUE.is("put(4, 0) much later", x.put(4, 0), -1);
        DUE.is("no state has come", x.count(2), 2);
        DUE.is("another package may name it too", x.put(5, 0), 2);
        DUE.is("the package may name another", x.put(4, 1), 3);
        DUE.is("and the first again, as it names it no more", x.put(4, 0), 4);
        DUE.is("which it now does", x.put(4, 0), -1);
    }

    private static void yankedIsNotPut() {
        DUE.says("promise 3", "the FILE is YANKED");
        MirrorNet x = Nets.withFiles(1, 1);
        x.put(0, 0);
        x.yank(0);
        DUE.is("put in the tick of the yank", x.put(0, 0), -1);
        DUE.is("put by another package", x.put(1, 0), -1);
        DUE.says("Terms I", "it is YANKED from that TICK on");
        Nets.goTo(x, 9999);
        DUE.is("put at the last tick", x.put(0, 0), -1);
        DUE.is("the other file", x.put(0, 1), 3);
    }

    private static void sixtyStates() {
        DUE.says("Terms I", "STATES 0, 1, .. of the SHELF, 60 at most");
        MirrorNet x = Nets.withFiles(1, 2, 3);
        for (int k = 1; k <= 58; k++) {
            DUE.is("put " + k, x.put(11, k % 2), k);
        }
        DUE.is("the last state", x.put(11, 1), 59);
        DUE.says("promise 3", "NONE: there are 60");
        DUE.is("put of another file", x.put(11, 0), -1);
        DUE.is("put of another package", x.put(0, 0), -1);
        DUE.is("there are 60 still", x.count(2), 60);
        DUE.is("names(59, 11)", x.names(59, 11), 1);
        DUE.is("names(59, 0)", x.names(59, 0), -1);
        DUE.says("promise 4", "NONE: there are 60");
        DUE.is("yank of a named file", x.yank(1), -1);
        DUE.is("yank of a file without a name", x.yank(2), -1);
        DUE.is("nothing is yanked", x.count(6), 0);
        DUE.is("names(59, 11) still", x.names(59, 11), 1);
    }

    private static void sixtyStatesByYanks() {
        DUE.says("Terms I", "YANK of a FILE: the next STATE");
        MirrorNet x = Nets.withBytes(60);
        for (int k = 1; k <= 59; k++) {
            DUE.is("yank(" + k + ")", x.yank(k), k);
        }
        DUE.is("yanked", x.count(6), 59);
        DUE.says("promise 4", "NONE: there are 60");
        DUE.is("yank(0)", x.yank(0), -1);
        DUE.is("yanked still", x.count(6), 59);
        DUE.is("put(0, 0)", x.put(0, 0), -1);
    }

    private static void stateZero() {
        DUE.says("Terms I", "STATE 0 from TICK 0 on names nothing");
        MirrorNet x = Nets.withFiles(5);
        for (int round = 0; round < 2; round++) {
            for (int pack = 0; pack < 12; pack++) {
                DUE.is("names(0, " + pack + ")", x.names(0, pack), -1);
            }
            DUE.is("its tick", x.state(0, 0), 0);
            DUE.is("its packages", x.state(0, 2), 0);
            DUE.is("its bytes", x.state(0, 3), 0);
            x.put(0, 0);
            x.put(11, 0);
        }
    }

    private static void oneFileForAPackage() {
        DUE.says("Terms I", "each names at most one FILE for each PACKAGE");
        MirrorNet x = Nets.withFiles(5, 7);
        x.put(6, 0);
        x.put(6, 1);
        DUE.is("names(2, 6)", x.names(2, 6), 1);
        DUE.is("packages", x.state(2, 2), 1);
        DUE.is("bytes", x.state(2, 3), 7);
        DUE.is("the state ahead is as it was", x.names(1, 6), 0);
    }

    private static void asTheOneAhead() {
        DUE.says("Terms I", "(else as the one ahead)");
        MirrorNet x = Nets.withBytes(13);
        for (int pack = 0; pack < 12; pack++) {
            x.put(pack, pack);
        }
        for (int pack = 0; pack < 12; pack++) {
            DUE.is("names(12, " + pack + ")", x.names(12, pack), pack);
        }
        x.put(0, 12);
        DUE.is("put of the first package", x.names(13, 0), 12);
        for (int pack = 1; pack < 12; pack++) {
            DUE.is("names(13, " + pack + ")", x.names(13, pack), pack);
        }
        x.put(11, 12);
        DUE.is("put of the last package", x.names(14, 11), 12);
        DUE.is("the first stays", x.names(14, 0), 12);
        DUE.is("the one but last stays", x.names(14, 10), 10);
    }

    private static void yankOfAll() {
        DUE.says("Terms I", "YANK of a FILE: the next STATE, in which no PACKAGE names it");
        MirrorNet x = Nets.withFiles(9, 9);
        for (int pack = 0; pack < 12; pack++) {
            x.put(pack, 0);
        }
        DUE.is("yank of what all name", x.yank(0), 13);
        for (int pack = 0; pack < 12; pack++) {
            DUE.is("names(13, " + pack + ")", x.names(13, pack), -1);
            DUE.is("names(12, " + pack + ") as it was", x.names(12, pack), 0);
        }
        DUE.is("yank of what none names", x.yank(1), 14);
        DUE.is("packages", x.state(14, 2), 0);
    }

    private static void filesToYank() {
        DUE.says("promise 4", "no such FILE");
        DUE.is("yank(0) without files", new MirrorNet().yank(0), -1);
        MirrorNet x = Nets.withFiles(1, 1);
        DUE.is("yank of the file behind the last", x.yank(2), -1);
        for (int odd : Nets.NEVER) {
            DUE.is("yank(" + odd + ")", x.yank(odd), -1);
        }
        DUE.is("no state has come", x.count(2), 1);
        DUE.is("nothing is yanked", x.count(6), 0);
        DUE.is("yank of the last", x.yank(1), 1);
        DUE.is("yank of the first", x.yank(0), 2);
        MirrorNet y = Nets.withBytes(60);
        DUE.is("yank of file 59", y.yank(59), 1);
        DUE.is("put of file 59", y.put(0, 59), -1);
        DUE.is("put of file 58", y.put(0, 58), 2);
    }

    private static void yankedTwice() {
        DUE.says("promise 4", "or it is YANKED");
        MirrorNet x = Nets.withFiles(1, 1);
        x.yank(0);
        DUE.is("yank at once again", x.yank(0), -1);
        Nets.goTo(x, 9999);
        DUE.is("yank at the last tick", x.yank(0), -1);
        DUE.is("states", x.count(2), 2);
        DUE.is("yanked", x.count(6), 1);
        DUE.is("yank of the other", x.yank(1), 2);
    }

    private static void ticksOfStates() {
        DUE.says("Terms I", "has the TICK at which it came");
        MirrorNet x = Nets.withFiles(1, 1);
        x.put(0, 0);
        DUE.is("a state of tick 0", x.state(1, 0), 0);
        x.pass(1);
        x.put(0, 1);
        DUE.is("a state of tick 1", x.state(2, 0), 1);
        Nets.goTo(x, 9999);
        x.put(0, 0);
        DUE.is("a state of the last tick, by put", x.state(3, 0), 9999);
        x.yank(0);
        DUE.is("a state of the last tick, by yank", x.state(4, 0), 9999);
        DUE.is("the one of tick 1", x.state(2, 0), 1);
    }

    private static void ageOfTheLatest() {
        DUE.says("Terms I", "AGE of a STATE: 0 of the latest");
        MirrorNet x = Nets.withFiles(1);
        DUE.is("of state 0 at tick 0", x.state(0, 1), 0);
        Nets.goTo(x, 5000);
        DUE.is("of state 0 at tick 5000", x.state(0, 1), 0);
        x.put(0, 0);
        Nets.goTo(x, 9999);
        DUE.is("of state 1 at the last tick", x.state(1, 1), 0);
        DUE.is("of state 0 now", x.state(0, 1), 4999);
        MirrorNet y = Nets.withFiles(1, 1);
        for (int k = 1; k < 60; k++) {
            y.put(0, k % 2);
        }
        y.pass(3);
        DUE.is("of state 59, the last there can be", y.state(59, 1), 0);
        DUE.is("of state 58", y.state(58, 1), 3);
    }

    private static void ageOfOthers() {
        DUE.says("Terms I", "else NOW less the TICK at which the next one came");
        MirrorNet x = Nets.withFiles(1, 1);
        x.put(0, 0);
        DUE.is("the next came at NOW", x.state(0, 1), 0);
        x.pass(1);
        DUE.is("the next came a tick ago", x.state(0, 1), 1);
        x.put(0, 1);
        DUE.is("the next, not the latest", x.state(0, 1), 1);
        DUE.is("nor its own tick", x.state(1, 1), 0);
        Nets.goTo(x, 9999);
        DUE.is("the greatest there is", x.state(0, 1), 9999);
        DUE.is("of state 1", x.state(1, 1), 9998);
    }

    private static void namesWithoutThese() {
        DUE.says("promise 18", "NONE: none, or without these.");
        MirrorNet x = Nets.withFiles(1, 1, 1);
        for (int pack = 0; pack < 12; pack++) {
            x.put(pack, pack % 3);
        }
        DUE.is("names(12, 0)", x.names(12, 0), 0);
        DUE.is("names(12, 11)", x.names(12, 11), 2);
        DUE.is("none yet for package 11", x.names(11, 11), -1);
        DUE.is("the package behind the last, with a state behind it", x.names(11, 12), -1);
        DUE.is("the state behind the latest", x.names(13, 0), -1);
        DUE.is("neither, though in one row of all states it would be package 0 of the latest", x.names(13, -12), -1);
        x.put(0, 1);
        DUE.is("the package ahead of the first, though the state ahead names a file for its last one", x.names(13, -1), -1);
        for (int odd : Nets.NEVER) {
            DUE.is("names(" + odd + ", 0)", x.names(odd, 0), -1);
            DUE.is("names(12, " + odd + ")", x.names(12, odd), -1);
            DUE.is("names(" + odd + ", " + odd + ")", x.names(odd, odd), -1);
        }
    }

    private static void statesWithoutThese() {
        DUE.says("promise 19", "NONE without it, or for another what.");
        MirrorNet x = Nets.withFiles(7);
        x.pass(2);
        x.put(3, 0);
        int[] due = {2, 0, 1, 7};
        for (int what = 0; what < 4; what++) {
            DUE.is("state(1, " + what + ")", x.state(1, what), due[what]);
            DUE.is("state(2, " + what + ")", x.state(2, what), -1);
            for (int odd : Nets.NEVER) {
                DUE.is("state(" + odd + ", " + what + ")", x.state(odd, what), -1);
            }
        }
        DUE.is("state(1, 4)", x.state(1, 4), -1);
        for (int odd : Nets.NEVER) {
            DUE.is("state(1, " + odd + ")", x.state(1, odd), -1);
        }
    }

    private static void emptyAndFullStates() {
        DUE.says("promise 19", "2: PACKAGES that name a FILE");
        MirrorNet x = new MirrorNet();
        for (int k = 0; k < 13; k++) {
            x.file(500);
        }
        DUE.is("none", x.state(0, 2), 0);
        for (int pack = 0; pack < 12; pack++) {
            x.put(pack, 12);
        }
        DUE.is("all", x.state(12, 2), 12);
        DUE.says("promise 19", "3: bytes of its FILES (each once)");
        DUE.is("of none", x.state(0, 3), 0);
        DUE.is("of one file that all name", x.state(12, 3), 500);
        for (int pack = 0; pack < 12; pack++) {
            x.put(pack, pack);
        }
        DUE.is("of twelve of the greatest", x.state(24, 3), 6000);
        DUE.is("of twelve, of which one is named once still", x.state(23, 3), 6000);
        DUE.is("of eleven, of which one is named twice still", x.state(22, 3), 5500);
    }

    private static void countsAtBothEnds() {
        DUE.says("promise 22", "NONE for others.");
        MirrorNet x = new MirrorNet();
        DUE.is("count(6)", x.count(6), 0);
        DUE.is("count(7)", x.count(7), -1);
        for (int odd : Nets.NEVER) {
            DUE.is("count(" + odd + ")", x.count(odd), -1);
        }
        DUE.says("promise 22", "2: STATES");
        DUE.is("state 0 is one", x.count(2), 1);
    }
}
