/** One object filled to every limit at once and used up to its 512th call: the section "What it is". */
public final class UseTest {
    private static final Due DUE = new Due("UseTest");

    private final MirrorNet net = new MirrorNet();
    private int calls = 0;

    public static void main(String[] args) {
        DUE.says("What it is", "An object is used for at most 512 calls after it has been made");
        UseTest one = new UseTest();
        one.fill();
        one.everyAskerAsks();
        one.nothingMore();
        one.lookUpToTheLastCall();
        one.andBeyond();
        DUE.end();
    }

    private void is(String call, int got, int due) {
        calls++;
        DUE.is("call " + calls + ": " + call, got, due);
    }

    private void fill() {
        for (int k = 0; k < 60; k++) {
            is("file", net.file(500), k);
        }
        for (int m = 0; m < 8; m++) {
            is("mirror", net.mirror(m - 1, 1000, 3), m);
        }
        for (int k = 1; k < 60; k++) {
            is("put", net.put(k % 12, k), k);
        }
        for (int a = 0; a < 6; a++) {
            for (int m = 0; m < 8; m++) {
                is("cost", net.cost(a, m, 100), -1);
            }
        }
        for (int k = 1; k <= 40; k++) {
            is("fall", net.fall(k % 7, 9900 + k, 9999), k);
        }
        for (int k = 1; k <= 19; k++) {
            is("pass", net.pass(500), 500 * k);
        }
        is("pass", net.pass(499), 9999);
    }

    /** The latest state names twelve files; mirrors 0 to 6 are fallen, mirror 7 has all. */
    private void everyAskerAsks() {
        for (int a = 0; a < 6; a++) {
            is("ask", net.ask(a, 4095), 0);
            is("asked(0)", net.asked(0), 59);
            is("asked(1)", net.asked(1), 13 * 8 * 100);
            is("asked(2)", net.asked(2), 13 * 8);
            is("asked(3)", net.asked(3), 12);
            is("asked(5)", net.asked(5), 1300);
        }
    }

    private void nothingMore() {
        is("file beyond", net.file(1), -1);
        is("put beyond", net.put(0, 0), -1);
        is("yank beyond", net.yank(0), -1);
        is("mirror beyond", net.mirror(7, 1, 0), -1);
        is("fall beyond", net.fall(7, 9999, 9999), -1);
        is("pass beyond", net.pass(1), -1);
        int[] due = {9999, 60, 60, 8, 40, 9999, 0};
        for (int what = 0; what < 7; what++) {
            is("count(" + what + ")", net.count(what), due[what]);
        }
    }

    private void lookUpToTheLastCall() {
        for (int m = 0; m < 8; m++) {
            is("INDEX", net.about(m, 0), 59);
            is("bytes", net.about(m, 3), 6000);
            is("bytes taken", net.about(m, 5), 6000);
            is("FALLEN", net.about(m, 6), m == 7 ? 0 : 1);
        }
        for (int k = 0; k < 12; k++) {
            is("got file", net.got(k, 0), 48 + k);
            is("got package", net.got(k, 1), k);
            is("got mirror", net.got(k, 2), 7);
        }
        while (calls < 511) {
            int file = calls % 60;
            is("has(7, " + file + ")", net.has(7, file), file < 48 ? 0 : 1);
        }
        is("the 512th call", net.ask(5, 1 << 11), 0);
        DUE.is("calls", calls, 512);
    }

    /** What these answer is free, but LANGUAGE.md wants that no call may ever throw. */
    private void andBeyond() {
        for (int k = 0; k < 512; k++) {
            net.file(k);
            net.put(k, k);
            net.yank(k);
            net.mirror(k, k, k);
            net.fall(k, k, k);
            net.pass(k);
            net.ask(k, k);
            net.got(k, k);
        }
    }
}
