/** Promises 1 to 4, 18, 19 and 22: files, states and counts. */
public final class ShelfTest {
    private static final int LEAST = Integer.MIN_VALUE;
    private static final int MOST = Integer.MAX_VALUE;
    private static final Due DUE = new Due("ShelfTest");

    public static void main(String[] args) {
        newObject();
        files();
        puts();
        putsToTheLimit();
        yanks();
        names();
        states();
        counts();
        objectsApart();
        DUE.end();
    }

    private static void newObject() {
        DUE.promise(1);
        MirrorNet x = new MirrorNet();
        int[] due = {0, 0, 1, 0, 0, 9999, 0};
        for (int what = 0; what < due.length; what++) {
            DUE.is("count(" + what + ")", x.count(what), due[what]);
        }
        DUE.is("state(0, 0)", x.state(0, 0), 0);
        DUE.is("state(1, 0)", x.state(1, 0), -1);
        DUE.is("about(0, 0)", x.about(0, 0), -1);
        DUE.is("has(0, 0)", x.has(0, 0), -1);
        DUE.is("asked(0)", x.asked(0), -1);
        for (int k = 0; k < 6; k++) {
            DUE.is("LAST of asker " + k, x.asker(k, 0), -1);
            DUE.is("what asker " + k + " bears", x.asker(k, 1), 9999);
            DUE.is("BAD of asker " + k, x.asker(k, 2), 0);
        }
        DUE.is("NONE", MirrorNet.NONE, -1);
    }

    private static void files() {
        DUE.promise(2);
        MirrorNet x = new MirrorNet();
        for (int size : new int[] {0, -1, 501, LEAST, MOST}) {
            DUE.is("file(" + size + ")", x.file(size), -1);
        }
        DUE.is("count(1)", x.count(1), 0);
        for (int k = 0; k < 60; k++) {
            DUE.is("file " + k, x.file(k == 0 ? 1 : 500), k);
        }
        DUE.is("a file beyond 60", x.file(1), -1);
        DUE.is("count(1)", x.count(1), 60);
    }

    private static void puts() {
        DUE.promise(3);
        MirrorNet x = new MirrorNet();
        x.file(10);
        x.file(20);
        for (int pack : new int[] {-1, 12, LEAST, MOST}) {
            DUE.is("put of package " + pack, x.put(pack, 0), -1);
        }
        for (int file : new int[] {-1, 2, LEAST, MOST}) {
            DUE.is("put of file " + file, x.put(0, file), -1);
        }
        DUE.is("count(2)", x.count(2), 1);
        DUE.is("put(0, 0)", x.put(0, 0), 1);
        DUE.is("put(0, 0) again", x.put(0, 0), -1);
        DUE.is("put(11, 0)", x.put(11, 0), 2);
        DUE.is("put(0, 1)", x.put(0, 1), 3);
        DUE.is("put(0, 0) once more", x.put(0, 0), 4);
        DUE.is("count(2)", x.count(2), 5);
        x.yank(1);
        DUE.is("put of a yanked file", x.put(3, 1), -1);
        DUE.is("count(2)", x.count(2), 6);
    }

    private static void putsToTheLimit() {
        MirrorNet x = new MirrorNet();
        x.file(10);
        x.file(20);
        for (int k = 1; k < 60; k++) {
            DUE.is("put " + k, x.put(7, k % 2), k);
        }
        DUE.is("put beyond 60 states", x.put(7, 0), -1);
        DUE.is("names(59, 7)", x.names(59, 7), 1);
        DUE.is("count(2)", x.count(2), 60);
        DUE.promise(4);
        DUE.is("yank beyond 60 states", x.yank(0), -1);
        DUE.is("count(6)", x.count(6), 0);
        DUE.is("count(2)", x.count(2), 60);
    }

    private static void yanks() {
        DUE.promise(4);
        MirrorNet x = new MirrorNet();
        x.file(10);
        x.file(20);
        x.file(30);
        x.put(2, 0);
        x.put(5, 0);
        x.put(6, 1);
        for (int file : new int[] {-1, 3, LEAST, MOST}) {
            DUE.is("yank(" + file + ")", x.yank(file), -1);
        }
        DUE.is("yank(0)", x.yank(0), 4);
        DUE.is("yank(0) again", x.yank(0), -1);
        DUE.is("package 2 in the state ahead", x.names(3, 2), 0);
        DUE.is("package 2", x.names(4, 2), -1);
        DUE.is("package 5", x.names(4, 5), -1);
        DUE.is("package 6", x.names(4, 6), 1);
        DUE.is("yank of a file that nothing names", x.yank(2), 5);
        DUE.is("package 6 still", x.names(5, 6), 1);
        DUE.is("count(6)", x.count(6), 2);
    }

    private static void names() {
        DUE.promise(18);
        MirrorNet x = new MirrorNet();
        x.file(10);
        x.file(20);
        x.put(0, 1);
        x.put(11, 0);
        for (int pack = 0; pack < 12; pack++) {
            DUE.is("names(0, " + pack + ")", x.names(0, pack), -1);
            DUE.is("names(1, " + pack + ")", x.names(1, pack), pack == 0 ? 1 : -1);
            DUE.is("names(2, " + pack + ")", x.names(2, pack), pack == 0 ? 1 : pack == 11 ? 0 : -1);
        }
        for (int odd : new int[] {-1, 12, 60, LEAST, MOST}) {
            DUE.is("names(2, " + odd + ")", x.names(2, odd), -1);
            DUE.is("names(" + odd + ", 0)", x.names(odd, 0), -1);
        }
        DUE.is("names(3, 0)", x.names(3, 0), -1);
    }

    private static void states() {
        DUE.promise(19);
        MirrorNet x = new MirrorNet();
        x.file(10);
        x.file(25);
        x.pass(7);
        DUE.is("AGE of state 0, the latest", x.state(0, 1), 0);
        x.put(0, 0);
        x.put(1, 0);
        x.pass(5);
        x.put(2, 1);
        x.pass(2);
        int[][] due = {{0, 7, 0, 0}, {7, 7, 1, 10}, {7, 2, 2, 10}, {12, 0, 3, 35}};
        for (int k = 0; k < due.length; k++) {
            for (int what = 0; what < 4; what++) {
                DUE.is("state(" + k + ", " + what + ")", x.state(k, what), due[k][what]);
            }
        }
        for (int odd : new int[] {-1, 4, LEAST, MOST}) {
            DUE.is("state(1, " + odd + ")", x.state(1, odd), -1);
            DUE.is("state(" + odd + ", 0)", x.state(odd, 0), -1);
            DUE.is("state(" + odd + ", 1)", x.state(odd, 1), -1);
        }
    }

    private static void counts() {
        DUE.promise(22);
        MirrorNet x = new MirrorNet();
        x.file(1);
        x.file(2);
        x.file(3);
        x.put(0, 0);
        x.yank(1);
        x.yank(0);
        x.mirror(-1, 1, 0);
        x.mirror(0, 1, 0);
        x.pass(9);
        x.fall(0, 9, 9);
        x.grace(77);
        int[] due = {9, 3, 4, 2, 1, 77, 2};
        for (int what = 0; what < due.length; what++) {
            DUE.is("count(" + what + ")", x.count(what), due[what]);
        }
        x.pass(50);
        DUE.is("falls that are over are falls", x.count(4), 1);
        for (int odd : new int[] {-1, 7, LEAST, MOST}) {
            DUE.is("count(" + odd + ")", x.count(odd), -1);
        }
    }

    private static void objectsApart() {
        DUE.promise(1);
        MirrorNet x = new MirrorNet();
        MirrorNet y = new MirrorNet();
        x.file(1);
        x.put(0, 0);
        x.mirror(-1, 1, 0);
        x.cost(0, 0, 1);
        x.pass(3);
        x.ask(0, 1);
        DUE.is("the other's files", y.count(1), 0);
        DUE.is("the other's states", y.count(2), 1);
        DUE.is("the other's mirrors", y.count(3), 0);
        DUE.is("the other's tick", y.count(0), 0);
        DUE.is("the other's asking", y.asked(1), -1);
    }
}
