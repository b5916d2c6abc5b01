/** Promises 10 to 17: askers, what they ask, and what it came to. */
public final class AskTest {
    private static final int LEAST = Integer.MIN_VALUE;
    private static final int MOST = Integer.MAX_VALUE;
    private static final Due DUE = new Due("AskTest");

    public static void main(String[] args) {
        costs();
        bears();
        graces();
        forgives();
        wrongAsks();
        plainAsk();
        line();
        fallenOnesCost();
        liarsOfTheIndex();
        liarsDearerThanTheIndex();
        rollBack();
        ages();
        yankedFiles();
        notNamed();
        withoutIndex();
        sameFileTwice();
        foresight();
        foresightOfTheIndex();
        latestAsk();
        got();
        askers();
        DUE.end();
    }

    /** Packages 0 and 1 name files 0 (10 bytes) and 1 (20 bytes) in state 2; as many fast mirrors as told. */
    private static MirrorNet net(int mirrors) {
        MirrorNet x = new MirrorNet();
        x.file(10);
        x.file(20);
        x.put(0, 0);
        x.put(1, 1);
        for (int k = 0; k < mirrors; k++) {
            x.mirror(-1, 1000, 0);
        }
        return x;
    }

    /** INDEX, TICKS spent, askings, FILES got, the PACKAGE that lacks, FORESIGHT. */
    private static void came(MirrorNet x, String when, int... due) {
        for (int what = 0; what < due.length; what++) {
            DUE.is(when + ": asked(" + what + ")", x.asked(what), due[what]);
        }
    }

    private static void wasGot(MirrorNet x, String when, int k, int... due) {
        for (int what = 0; what < due.length; what++) {
            DUE.is(when + ": got(" + k + ", " + what + ")", x.got(k, what), due[what]);
        }
    }

    private static void costs() {
        DUE.promise(10);
        MirrorNet x = net(2);
        DUE.is("cost(0, 1, 7)", x.cost(0, 1, 7), -1);
        DUE.is("cost(0, 1, 100)", x.cost(0, 1, 100), 7);
        for (int odd : new int[] {-2, 101, LEAST, MOST}) {
            DUE.is("cost(0, 1, " + odd + ")", x.cost(0, 1, odd), -2);
        }
        for (int odd : new int[] {-1, 2, 8, LEAST, MOST}) {
            DUE.is("cost of mirror " + odd, x.cost(0, odd, 5), -2);
        }
        for (int odd : new int[] {-1, 6, LEAST, MOST}) {
            DUE.is("cost of asker " + odd, x.cost(odd, 1, 5), -2);
        }
        DUE.is("cost(0, 1, 0)", x.cost(0, 1, 0), 100);
        DUE.is("cost(0, 1, NONE)", x.cost(0, 1, -1), 0);
        DUE.is("cost(0, 1, NONE) again", x.cost(0, 1, -1), -1);
        DUE.is("another asker", x.cost(5, 1, 3), -1);
        DUE.is("another mirror", x.cost(0, 0, 3), -1);
        x.cost(0, 0, -1);
        x.pass(1);
        DUE.is("who reaches none", x.ask(0, 1), 1);
        came(x, "who reaches none", -1, 0, 0, 0, -1, -1);
    }

    private static void bears() {
        DUE.promise(11);
        MirrorNet x = net(0);
        for (int odd : new int[] {-1, 10000, LEAST, MOST}) {
            DUE.is("bears(0, " + odd + ")", x.bears(0, odd), -1);
        }
        for (int odd : new int[] {-1, 6, LEAST, MOST}) {
            DUE.is("bears(" + odd + ", 5)", x.bears(odd, 5), -1);
        }
        DUE.is("bears(0, 0)", x.bears(0, 0), 9999);
        DUE.is("bears(0, 9999)", x.bears(0, 9999), 0);
        DUE.is("bears(0, 8)", x.bears(0, 8), 9999);
        DUE.is("asker(0, 1)", x.asker(0, 1), 8);
        DUE.is("asker(1, 1)", x.asker(1, 1), 9999);
    }

    private static void graces() {
        DUE.promise(12);
        MirrorNet x = net(0);
        for (int odd : new int[] {-1, 10000, LEAST, MOST}) {
            DUE.is("grace(" + odd + ")", x.grace(odd), -1);
        }
        DUE.is("grace(0)", x.grace(0), 9999);
        DUE.is("grace(9999)", x.grace(9999), 0);
        DUE.is("grace(4)", x.grace(4), 9999);
        DUE.is("count(5)", x.count(5), 4);
    }

    private static void forgives() {
        DUE.promise(13);
        MirrorNet x = net(3);
        for (int odd : new int[] {-1, 6, LEAST, MOST}) {
            DUE.is("forgives(" + odd + ")", x.forgives(odd), -1);
        }
        DUE.is("none to forgive", x.forgives(0), 0);
        for (int m = 0; m < 3; m++) {
            x.cost(0, m, m);
            x.cost(1, m, m);
        }
        x.pass(1);
        x.lies(0, true);
        x.lies(1, true);
        x.ask(0, 1);
        x.ask(1, 1);
        DUE.is("BAD", x.asker(0, 2), 3);
        DUE.is("forgives(0)", x.forgives(0), 2);
        DUE.is("BAD is forgotten", x.asker(0, 2), 0);
        DUE.is("another's is not", x.asker(1, 2), 3);
        x.ask(0, 1);
        DUE.is("found out again", x.asker(0, 2), 3);
    }

    private static void wrongAsks() {
        DUE.promise(14);
        MirrorNet x = net(1);
        x.cost(0, 0, 4);
        x.pass(1);
        for (int odd : new int[] {0, -1, 4096, LEAST, MOST}) {
            DUE.is("ask(0, " + odd + ")", x.ask(0, odd), -1);
        }
        for (int odd : new int[] {-1, 6, LEAST, MOST}) {
            DUE.is("ask(" + odd + ", 1)", x.ask(odd, 1), -1);
        }
        DUE.is("nothing happened", x.asker(0, 0), -1);
        DUE.promise(15);
        came(x, "ahead of any", -1, -1, -1, -1, -1, -1);
        DUE.promise(14);
        DUE.is("ask(0, 4095)", x.ask(0, 4095), 2);
    }

    private static void plainAsk() {
        DUE.promise(14);
        MirrorNet x = net(1);
        x.cost(5, 0, 4);
        x.pass(1);
        DUE.is("ask(5, 3)", x.ask(5, 3), 0);
        came(x, "two files", 2, 12, 3, 2, -1, 12);
        wasGot(x, "two files", 0, 0, 0, 0);
        wasGot(x, "two files", 1, 1, 1, 0);
        wasGot(x, "two files", 2, -1, -1, -1);
        DUE.is("LAST", x.asker(5, 0), 2);
        DUE.is("NOW stands", x.count(0), 1);
        DUE.is("ask(5, 2)", x.ask(5, 2), 0);
        came(x, "one file", 2, 8, 2, 1, -1, 8);
        wasGot(x, "one file", 0, 1, 1, 0);
        wasGot(x, "one file", 1, -1, -1, -1);
    }

    private static void line() {
        DUE.promise(14);
        MirrorNet x = net(5);
        int[] costs = {9, 3, 3, -1, 0};
        for (int m = 0; m < 5; m++) {
            x.cost(0, m, costs[m]);
            x.fall(m, 1, 1);
        }
        x.pass(1);
        DUE.is("all fallen", x.ask(0, 1), 1);
        came(x, "all fallen", -1, 15, 4, 0, -1, -1);
        x.pass(1);
        x.fall(4, 2, 2);
        DUE.is("one fallen", x.ask(0, 1), 0);
        came(x, "those of one cost by numbers", 2, 6, 4, 1, -1, 6);
        wasGot(x, "those of one cost by numbers", 0, 0, 0, 1);
        x.fall(1, 2, 2);
        DUE.is("two fallen", x.ask(0, 1), 0);
        came(x, "the next of this cost", 2, 12, 6, 1, -1, 6);
        wasGot(x, "the next of this cost", 0, 0, 0, 2);
    }

    private static void fallenOnesCost() {
        DUE.promise(14);
        MirrorNet x = net(2);
        x.cost(0, 0, 5);
        x.cost(0, 1, 30);
        x.pass(1);
        x.fall(0, 1, 2);
        DUE.is("behind a fallen one", x.ask(0, 3), 0);
        came(x, "it costs for the index and for each file", 2, 105, 6, 2, -1, 90);
        DUE.is("fallen is not BAD", x.asker(0, 2), 0);
        x.pass(2);
        DUE.is("it came back", x.ask(0, 3), 0);
        came(x, "it came back", 2, 15, 3, 2, -1, 15);
    }

    private static void liarsOfTheIndex() {
        DUE.promise(14);
        MirrorNet x = net(2);
        x.cost(0, 0, 5);
        x.cost(0, 1, 30);
        x.pass(1);
        x.lies(0, true);
        DUE.is("behind a liar", x.ask(0, 3), 0);
        came(x, "it costs once", 2, 95, 4, 2, -1, 90);
        DUE.is("BAD", x.asker(0, 2), 1);
        DUE.is("again", x.ask(0, 3), 0);
        came(x, "it is not asked any more", 2, 90, 3, 2, -1, 90);
        x.lies(0, false);
        DUE.is("it lies no more", x.ask(0, 1), 0);
        came(x, "BAD stays, but one who knew would ask it", 2, 60, 2, 1, -1, 10);
        x.forgives(0);
        DUE.is("forgiven", x.ask(0, 1), 0);
        came(x, "forgiven", 2, 10, 2, 1, -1, 10);
        x.lies(0, true);
        x.fall(0, 1, 1);
        DUE.is("a fallen liar", x.ask(0, 1), 0);
        DUE.is("is not found out", x.asker(0, 2), 0);
        came(x, "a fallen liar", 2, 70, 4, 1, -1, 60);
        x.lies(1, true);
        x.pass(1);
        DUE.is("liars alone", x.ask(0, 1), 1);
        came(x, "liars alone", -1, 35, 2, 0, -1, -1);
        DUE.is("all BAD", x.asker(0, 2), 3);
        DUE.is("none left", x.ask(0, 1), 1);
        came(x, "none left", -1, 0, 0, 0, -1, -1);
    }

    private static void liarsDearerThanTheIndex() {
        DUE.promise(14);
        MirrorNet x = net(1);
        x.mirror(-1, 15, 0);
        x.cost(0, 0, 1);
        x.cost(0, 1, 4);
        x.pass(1);
        x.lies(1, true);
        DUE.is("the dear liar is not met", x.ask(0, 3), 0);
        came(x, "the dear liar is not met", 2, 3, 3, 2, -1, 3);
        DUE.is("BAD", x.asker(0, 2), 0);
        x.cost(0, 1, 0);
        DUE.is("asked for an index, it is found out", x.ask(0, 2), 0);
        DUE.is("BAD", x.asker(0, 2), 2);
        came(x, "asked for an index, it is found out", 2, 2, 3, 1, -1, 2);
    }

    private static void rollBack() {
        DUE.promise(14);
        MirrorNet x = net(1);
        x.mirror(-1, 1, 0);
        x.cost(0, 0, 10);
        x.cost(0, 1, 1);
        x.cost(1, 1, 1);
        x.pass(1);
        DUE.is("mirror 1 is at state 0", x.ask(0, 1), 2);
        came(x, "which names nothing", 0, 1, 1, 0, 0, -1);
        DUE.is("LAST", x.asker(0, 0), 0);
        x.cost(0, 1, 20);
        DUE.is("mirror 0 is at state 2", x.ask(0, 1), 0);
        DUE.is("LAST", x.asker(0, 0), 2);
        x.cost(0, 1, 1);
        DUE.is("not back to 0", x.ask(0, 1), 0);
        came(x, "not back to 0", 2, 22, 4, 1, -1, 20);
        x.pass(29);
        DUE.is("mirror 1 is whole", x.about(1, 0), 2);
        DUE.is("the same as LAST is fine", x.ask(0, 1), 0);
        came(x, "the same as LAST is fine", 2, 2, 2, 1, -1, 2);
        DUE.is("another asker's LAST is his own", x.asker(1, 0), -1);
    }

    private static void ages() {
        DUE.promise(14);
        MirrorNet x = net(1);
        x.cost(0, 0, 2);
        x.pass(1);
        x.speed(0, 1);
        x.file(500);
        x.put(0, 2);
        x.pass(7);
        DUE.is("AGE of its index", x.state(2, 1), 7);
        x.bears(0, 6);
        DUE.is("too old", x.ask(0, 1), 1);
        came(x, "too old", -1, 2, 1, 0, -1, -1);
        DUE.is("LAST stays", x.asker(0, 0), -1);
        x.bears(0, 7);
        DUE.is("just borne", x.ask(0, 1), 0);
        x.bears(0, 0);
        x.pass(500);
        DUE.is("the latest has AGE 0", x.ask(0, 1), 0);
    }

    private static void yankedFiles() {
        DUE.promise(14);
        MirrorNet x = net(1);
        x.cost(0, 0, 2);
        x.pass(1);
        x.speed(0, 1);
        x.file(500);
        x.put(5, 2);
        x.yank(1);
        x.grace(0);
        DUE.is("yanked for 0 ticks", x.ask(0, 1), 0);
        x.pass(3);
        DUE.is("yanked for longer than 0", x.ask(0, 1), 1);
        came(x, "yanked for longer than 0", -1, 2, 1, 0, -1, -1);
        x.grace(2);
        DUE.is("for longer than 2", x.ask(0, 1), 1);
        x.grace(3);
        DUE.is("for 3", x.ask(0, 2), 0);
        wasGot(x, "for 3", 0, 1, 1, 0);
        x.grace(0);
        x.pass(500);
        DUE.is("the new index does not name it", x.ask(0, 1), 0);
        came(x, "the new index does not name it", 4, 4, 2, 1, -1, 4);
    }

    private static void notNamed() {
        DUE.promise(14);
        MirrorNet x = net(1);
        x.cost(0, 0, 3);
        x.pass(1);
        DUE.is("packages 1, 4 and 6", x.ask(0, 2 | 16 | 64), 2);
        came(x, "the least that is not named", 2, 3, 1, 0, 4, -1);
        wasGot(x, "nothing is got", 0, -1, -1, -1);
        DUE.is("LAST all the same", x.asker(0, 0), 2);
        DUE.is("package 11", x.ask(0, 2048), 2);
        came(x, "package 11", 2, 3, 1, 0, 11, -1);
    }

    private static void withoutIndex() {
        DUE.promise(14);
        MirrorNet x = net(0);
        DUE.is("without mirrors", x.ask(0, 1), 1);
        came(x, "without mirrors", -1, 0, 0, 0, -1, -1);
        DUE.is("LAST", x.asker(0, 0), -1);
    }

    private static void sameFileTwice() {
        DUE.promise(14);
        MirrorNet x = net(1);
        x.put(7, 0);
        x.cost(0, 0, 3);
        x.pass(1);
        DUE.is("packages 0 and 7", x.ask(0, 1 | 128), 0);
        came(x, "each package by itself", 3, 9, 3, 2, -1, 9);
        wasGot(x, "each package by itself", 0, 0, 0, 0);
        wasGot(x, "each package by itself", 1, 0, 7, 0);
    }

    private static void foresight() {
        DUE.promise(15);
        MirrorNet x = net(1);
        x.mirror(-1, 15, 0);
        x.mirror(-1, 1000, 0);
        x.bears(0, 0);
        x.pass(1);
        int[] costs = {50, 8, 40};
        for (int m = 0; m < 3; m++) {
            x.cost(0, m, costs[m]);
        }
        DUE.is("mirror 1 has file 0 alone", x.has(1, 0) * 10 + x.has(1, 1), 10);
        DUE.is("its index is state 0", x.about(1, 0), 0);
        DUE.is("ask(0, 3): state 0 is of AGE 1", x.ask(0, 3), 0);
        came(x, "index of 2, file 0 of 1, file 1 of 2", 2, 104, 5, 2, -1, 88);
        wasGot(x, "file 0", 0, 0, 0, 1);
        wasGot(x, "file 1", 1, 1, 1, 2);
    }

    private static void foresightOfTheIndex() {
        DUE.promise(15);
        MirrorNet x = new MirrorNet();
        for (int size : new int[] {10, 20, 400}) {
            x.file(size);
        }
        x.put(0, 0);
        for (int m = 0; m < 3; m++) {
            x.mirror(-1, 1000, 3);
        }
        x.pass(1);
        x.speed(0, 1);
        x.put(1, 2);
        x.fall(1, 1, 1);
        x.pass(1);
        int[] due = {1, 1, 2};
        for (int m = 0; m < 3; m++) {
            DUE.is("INDEX of " + m, x.about(m, 0), due[m]);
        }
        x.cost(0, 0, 3);
        x.cost(0, 2, 1);
        DUE.is("package 0", x.ask(0, 1), 0);
        came(x, "of mirror 2", 2, 2, 2, 1, -1, 2);
        x.cost(0, 2, 9);
        DUE.is("LAST is 2, mirror 0 is at 1", x.ask(0, 1), 0);
        came(x, "one who knew has the same LAST", 2, 15, 3, 1, -1, 12);
        x.cost(1, 0, 3);
        x.cost(1, 2, 1);
        x.fall(2, 2, 2);
        DUE.is("a new asker takes state 1", x.ask(1, 1), 0);
        came(x, "the fallen one is no help", 1, 8, 4, 1, -1, 6);
        x.pass(1);
        x.cost(2, 2, 5);
        x.cost(2, 0, 2);
        x.lies(0, true);
        DUE.is("the cheap one lies", x.ask(2, 1), 0);
        came(x, "a liar is no help", 2, 12, 3, 1, -1, 10);
        x.lies(0, false);
        DUE.is("it lies no more, but is BAD, and LAST is 2", x.ask(2, 1), 0);
        came(x, "it would have given the file alone", 2, 10, 2, 1, -1, 7);
        lastAsItWasAhead(x);
    }

    /** Mirror 0 is at state 1, mirror 2 at state 2; both name the same file for package 0. */
    private static void lastAsItWasAhead(MirrorNet x) {
        x.cost(5, 0, 1);
        x.lies(0, true);
        DUE.is("a liar alone", x.ask(5, 1), 1);
        x.lies(0, false);
        x.cost(5, 2, 5);
        DUE.is("known as BAD, it would have given state 1", x.ask(5, 1), 0);
        came(x, "LAST was NONE ahead, so state 1 would do", 2, 10, 2, 1, -1, 2);
        DUE.is("now LAST is 2", x.ask(5, 1), 0);
        came(x, "now LAST is 2", 2, 10, 2, 1, -1, 6);
        x.cost(4, 0, 1);
        x.lies(0, true);
        DUE.is("a liar alone", x.ask(4, 1), 1);
        x.lies(0, false);
        x.cost(4, 2, 5);
        DUE.is("both packages", x.ask(4, 3), 0);
        came(x, "state 1 names no file for package 1", 2, 15, 3, 2, -1, 11);
    }

    private static void latestAsk() {
        DUE.promise(15);
        MirrorNet x = net(1);
        x.cost(0, 0, 3);
        x.pass(1);
        x.ask(0, 3);
        x.ask(0, 0);
        x.ask(6, 1);
        came(x, "a NONE changes nothing", 2, 9, 3, 2, -1, 9);
        for (int odd : new int[] {-1, 6, LEAST, MOST}) {
            DUE.is("asked(" + odd + ")", x.asked(odd), -1);
        }
        x.ask(1, 3);
        came(x, "another asker's", -1, 0, 0, 0, -1, -1);
        wasGot(x, "another asker's", 0, -1, -1, -1);
    }

    private static void got() {
        DUE.promise(16);
        MirrorNet x = net(1);
        DUE.is("ahead of any", x.got(0, 0), -1);
        x.cost(0, 0, 3);
        for (int k = 0; k < 10; k++) {
            x.file(1);
        }
        for (int k = 0; k < 10; k++) {
            x.put(2 + k, 11 - k);
        }
        x.pass(1);
        DUE.is("all packages", x.ask(0, 4095), 0);
        DUE.is("files got", x.asked(3), 12);
        for (int k = 0; k < 12; k++) {
            wasGot(x, "all packages", k, k < 2 ? k : 13 - k, k, 0);
        }
        for (int odd : new int[] {-1, 12, LEAST, MOST}) {
            DUE.is("got(" + odd + ", 0)", x.got(odd, 0), -1);
        }
        for (int odd : new int[] {-1, 3, LEAST, MOST}) {
            DUE.is("got(0, " + odd + ")", x.got(0, odd), -1);
        }
    }

    private static void askers() {
        DUE.promise(17);
        MirrorNet x = net(8);
        for (int m = 0; m < 8; m++) {
            x.cost(3, m, 1);
        }
        x.pass(1);
        x.lies(7, true);
        x.lies(0, true);
        x.bears(3, 55);
        x.ask(3, 1);
        DUE.is("LAST", x.asker(3, 0), 2);
        DUE.is("bears", x.asker(3, 1), 55);
        DUE.is("BAD", x.asker(3, 2), 1);
        for (int m = 1; m < 7; m++) {
            x.cost(3, m, -1);
        }
        x.ask(3, 1);
        DUE.is("BAD 0 and 7", x.asker(3, 2), 129);
        for (int odd : new int[] {-1, 6, LEAST, MOST}) {
            DUE.is("asker(" + odd + ", 1)", x.asker(odd, 1), -1);
        }
        for (int odd : new int[] {-1, 3, LEAST, MOST}) {
            DUE.is("asker(3, " + odd + ")", x.asker(3, odd), -1);
        }
    }
}
