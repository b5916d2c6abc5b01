/** The edges of mirrors, falls and ticks: Terms II, promises 5 to 9, 20 and 21. */
public final class MirrorEdgeTest {
    private static final Due DUE = new Due("MirrorEdgeTest");

    public static void main(String[] args) {
        eightMirrors();
        whatMirrorsCopyFrom();
        speedsOfNewMirrors();
        keepsOfNewMirrors();
        aNewMirror();
        speedEdges();
        speedWithoutIt();
        speedFromNowOn();
        fortyFalls();
        fallsOfNoMirror();
        ticksOfFalls();
        fallsInOrder();
        fallsNotBehindNow();
        bothTicksOfAFall();
        fallsThatOverlap();
        fallsOfTheFirstAndTheLast();
        liesWithoutIt();
        liesThatChangeNothing();
        ticksToPass();
        passBeyondTheLastTick();
        laterThanItsOwn();
        aFileJustInATick();
        filesJustInATick();
        theSlowestAndTheGreatest();
        theMostInATick();
        fallenInTheLastTickOfAFile();
        gapOfOneTick();
        theShelfHasAll();
        theSourceHasItNot();
        aTargetOfNothing();
        keepOfNone();
        keepOfThree();
        fullSet();
        aboutWithoutIt();
        aboutWithoutATarget();
        hasWithoutThese();
        DUE.end();
    }

    private static void eightMirrors() {
        DUE.says("Terms II", "MIRRORS 0 to 7");
        MirrorNet x = new MirrorNet();
        for (int k = 0; k <= 6; k++) {
            DUE.is("mirror " + k, x.mirror(-1, 1, 0), k);
        }
        DUE.is("the last mirror", x.mirror(-1, 1, 0), 7);
        DUE.says("promise 5", "NONE: there are 8");
        DUE.is("one of the shelf", x.mirror(-1, 1, 0), -1);
        DUE.is("one of the last", x.mirror(7, 1000, 3), -1);
        DUE.is("there are 8 still", x.count(3), 8);
        DUE.is("about(7, 0)", x.about(7, 0), 0);
        DUE.is("about(8, 0)", x.about(8, 0), -1);
    }

    private static void whatMirrorsCopyFrom() {
        DUE.says("Terms II", "each copies from the SHELF, or from a MIRROR of a lesser number");
        MirrorNet x = new MirrorNet();
        DUE.is("the first from itself", x.mirror(0, 1, 0), -1);
        DUE.is("from one behind", x.mirror(1, 1, 0), -1);
        DUE.is("there is none", x.count(3), 0);
        DUE.says("promise 5", "(from NONE: from the SHELF)");
        DUE.is("from the shelf", x.mirror(-1, 1, 0), 0);
        DUE.says("promise 5", "or something is not as told");
        DUE.is("from -2", x.mirror(-2, 1, 0), -1);
        DUE.is("from itself", x.mirror(1, 1, 0), -1);
        DUE.is("from the one ahead", x.mirror(0, 1, 0), 1);
        for (int k = 2; k < 8; k++) {
            DUE.is("from itself, " + k, x.mirror(k, 1, 0), -1);
            DUE.is("from the one ahead, " + k, x.mirror(k - 1, 1, 0), k);
        }
        MirrorNet y = Nets.addMirrors(new MirrorNet(), 2);
        for (int odd : Nets.NEVER) {
            if (odd != -1) {
                DUE.is("from " + odd, y.mirror(odd, 1, 0), -1);
            }
        }
        DUE.is("a refused one takes no number", y.mirror(-1, 1, 0), 2);
    }

    private static void speedsOfNewMirrors() {
        DUE.says("Terms II", "its SPEED (1 to 1000 bytes a TICK)");
        MirrorNet x = new MirrorNet();
        DUE.is("mirror(-1, 0, 0)", x.mirror(-1, 0, 0), -1);
        DUE.is("mirror(-1, 1, 0)", x.mirror(-1, 1, 0), 0);
        DUE.is("mirror(-1, 1000, 0)", x.mirror(-1, 1000, 0), 1);
        DUE.is("mirror(-1, 1001, 0)", x.mirror(-1, 1001, 0), -1);
        for (int odd : new int[] {-1, -1000, 65537, Integer.MIN_VALUE, Integer.MAX_VALUE}) {
            DUE.is("mirror(-1, " + odd + ", 0)", x.mirror(-1, odd, 0), -1);
        }
        DUE.is("the speed of 0", x.speed(0, 5), 1);
        DUE.is("the speed of 1", x.speed(1, 5), 1000);
        DUE.is("there are 2", x.count(3), 2);
    }

    private static void keepsOfNewMirrors() {
        DUE.says("Terms II", "KEEP (0 to 3)");
        MirrorNet x = new MirrorNet();
        DUE.is("mirror(-1, 1, -1)", x.mirror(-1, 1, -1), -1);
        DUE.is("mirror(-1, 1, 0)", x.mirror(-1, 1, 0), 0);
        DUE.is("mirror(-1, 1, 3)", x.mirror(-1, 1, 3), 1);
        DUE.is("mirror(-1, 1, 4)", x.mirror(-1, 1, 4), -1);
        DUE.is("mirror(-1, 1, MIN)", x.mirror(-1, 1, Integer.MIN_VALUE), -1);
        DUE.is("mirror(-1, 1, MAX)", x.mirror(-1, 1, Integer.MAX_VALUE), -1);
        DUE.is("there are 2", x.count(3), 2);
    }

    private static void aNewMirror() {
        DUE.says("Terms II", "It has an INDEX (a STATE; 0 at first)");
        MirrorNet x = Nets.withFiles(5);
        x.put(0, 0);
        x.pass(9);
        x.mirror(-1, 5, 3);
        int[] due = {0, -1, 0, 0, 0, 0, 0, 0, -1};
        for (int what = 0; what < 9; what++) {
            DUE.is("about(0, " + what + ") of one that came late", x.about(0, what), due[what]);
        }
        DUE.is("has(0, 0)", x.has(0, 0), 0);
    }

    private static void speedEdges() {
        DUE.says("promise 6", "SPEED from now on: what it was");
        MirrorNet x = new MirrorNet();
        x.mirror(-1, 7, 0);
        DUE.is("speed(0, 1)", x.speed(0, 1), 7);
        DUE.is("speed(0, 1000)", x.speed(0, 1000), 1);
        DUE.is("speed(0, 1000) again", x.speed(0, 1000), 1000);
        DUE.says("promise 6", "NONE, and nothing happens, for others.");
        for (int odd : new int[] {0, 1001, -1, 65537, Integer.MIN_VALUE, Integer.MAX_VALUE}) {
            DUE.is("speed(0, " + odd + ")", x.speed(0, odd), -1);
            DUE.is("it is as it was", x.speed(0, 1000), 1000);
        }
    }

    private static void speedWithoutIt() {
        DUE.says("promise 6", "NONE, and nothing happens, for others.");
        MirrorNet x = Nets.addMirrors(new MirrorNet(), 7);
        DUE.is("speed(6, 1)", x.speed(6, 1), 1000);
        DUE.is("speed(7, 1)", x.speed(7, 1), -1);
        x.mirror(-1, 9, 0);
        DUE.is("speed(7, 1) when it has come", x.speed(7, 1), 9);
        DUE.is("speed(8, 1)", x.speed(8, 1), -1);
        for (int odd : Nets.NEVER) {
            DUE.is("speed(" + odd + ", 1)", x.speed(odd, 1), -1);
        }
    }

    private static void speedFromNowOn() {
        DUE.says("promise 6", "SPEED from now on");
        MirrorNet x = Nets.withFiles(500);
        x.mirror(-1, 10, 0);
        x.put(0, 0);
        x.pass(1);
        x.speed(0, 489);
        DUE.is("nothing is taken by the call", x.about(0, 5), 10);
        x.pass(1);
        DUE.is("a byte is left", x.about(0, 8), 1);
        x.speed(0, 1);
        x.pass(1);
        DUE.is("and taken", x.about(0, 0), 1);
    }

    private static void fortyFalls() {
        DUE.says("Terms II", "FALLS, 40 at most");
        MirrorNet x = Nets.addMirrors(new MirrorNet(), 2);
        for (int k = 1; k <= 39; k++) {
            DUE.is("fall " + k, x.fall(k % 2, 0, 0), k);
        }
        DUE.is("the last fall", x.fall(0, 5, 5), 40);
        DUE.says("promise 7", "NONE: 40");
        DUE.is("one more", x.fall(0, 7, 7), -1);
        DUE.is("one more of the other", x.fall(1, 7, 7), -1);
        DUE.is("there are 40 still", x.count(4), 40);
        x.pass(5);
        DUE.is("the last one holds", x.about(0, 6), 1);
        x.pass(2);
        DUE.is("the refused one does not", x.about(0, 6), 0);
        DUE.is("those that are over count still", x.fall(0, 9, 9), -1);
    }

    private static void fallsOfNoMirror() {
        DUE.says("promise 7", "or something is not as told");
        MirrorNet x = Nets.addMirrors(new MirrorNet(), 7);
        DUE.is("fall(7, 0, 0)", x.fall(7, 0, 0), -1);
        for (int odd : Nets.NEVER) {
            DUE.is("fall(" + odd + ", 0, 0)", x.fall(odd, 0, 0), -1);
        }
        DUE.is("fall(8, 0, 0)", x.fall(8, 0, 0), -1);
        DUE.is("there is none", x.count(4), 0);
        DUE.is("fall(6, 0, 0)", x.fall(6, 0, 0), 1);
    }

    private static void ticksOfFalls() {
        DUE.says("promise 7", "TICKS 0 to 9999");
        MirrorNet x = Nets.addMirrors(new MirrorNet(), 1);
        DUE.is("fall(0, -1, 5)", x.fall(0, -1, 5), -1);
        DUE.is("fall(0, -1, -1)", x.fall(0, -1, -1), -1);
        DUE.is("fall(0, 0, 10000)", x.fall(0, 0, 10000), -1);
        DUE.is("fall(0, 9999, 10000)", x.fall(0, 9999, 10000), -1);
        DUE.is("fall(0, 10000, 10000)", x.fall(0, 10000, 10000), -1);
        DUE.is("fall(0, MIN, MAX)", x.fall(0, Integer.MIN_VALUE, Integer.MAX_VALUE), -1);
        DUE.is("fall(0, MAX, MIN)", x.fall(0, Integer.MAX_VALUE, Integer.MIN_VALUE), -1);
        DUE.is("there is none", x.count(4), 0);
        DUE.is("fall(0, 0, 0)", x.fall(0, 0, 0), 1);
        DUE.is("fall(0, 9999, 9999)", x.fall(0, 9999, 9999), 2);
        DUE.is("fall(0, 0, 9999)", x.fall(0, 0, 9999), 3);
    }

    private static void fallsInOrder() {
        DUE.says("promise 7", "in order");
        MirrorNet x = Nets.addMirrors(new MirrorNet(), 1);
        DUE.is("fall(0, 6, 5)", x.fall(0, 6, 5), -1);
        DUE.is("fall(0, 9999, 0)", x.fall(0, 9999, 0), -1);
        DUE.is("there is none", x.count(4), 0);
        DUE.is("fall(0, 5, 5)", x.fall(0, 5, 5), 1);
        DUE.is("fall(0, 5, 6)", x.fall(0, 5, 6), 2);
    }

    private static void fallsNotBehindNow() {
        DUE.says("promise 7", "the first not behind NOW");
        MirrorNet x = Nets.addMirrors(new MirrorNet(), 1);
        x.pass(20);
        DUE.is("fall(0, 19, 30)", x.fall(0, 19, 30), -1);
        DUE.is("fall(0, 19, 20)", x.fall(0, 19, 20), -1);
        DUE.is("fall(0, 0, 9999)", x.fall(0, 0, 9999), -1);
        DUE.is("it stands", x.about(0, 6), 0);
        DUE.is("fall(0, 21, 21)", x.fall(0, 21, 21), 1);
        DUE.is("it stands still", x.about(0, 6), 0);
        DUE.is("fall(0, 20, 20)", x.fall(0, 20, 20), 2);
        DUE.is("it is fallen", x.about(0, 6), 1);
        Nets.goTo(x, 9999);
        DUE.is("fall(0, 9998, 9999)", x.fall(0, 9998, 9999), -1);
        DUE.is("fall(0, 9999, 9999)", x.fall(0, 9999, 9999), 3);
        DUE.is("it is fallen at the last tick", x.about(0, 6), 1);
    }

    private static void bothTicksOfAFall() {
        DUE.says("Terms II", "of a MIRROR from a TICK to a TICK");
        MirrorNet x = Nets.withFiles(100);
        x.mirror(-1, 10, 0);
        x.put(0, 0);
        x.fall(0, 2, 4);
        int[] fallen = {0, 0, 1, 1, 1, 0, 0};
        int[] taken = {0, 10, 20, 20, 20, 20, 30};
        int[] done = {0, 10, 20, 0, 0, 0, 10};
        for (int tick = 0; tick < 7; tick++) {
            DUE.is("fallen at " + tick, x.about(0, 6), fallen[tick]);
            DUE.is("bytes taken at " + tick, x.about(0, 5), taken[tick]);
            DUE.is("DONE at " + tick, x.about(0, 4), done[tick]);
            x.pass(1);
        }
    }

    private static void fallsThatOverlap() {
        DUE.says("Terms II", "of a MIRROR from a TICK to a TICK");
        MirrorNet x = Nets.addMirrors(new MirrorNet(), 1);
        x.fall(0, 3, 6);
        x.fall(0, 4, 4);
        x.fall(0, 6, 8);
        x.fall(0, 9, 9);
        x.fall(0, 11, 11);
        x.fall(0, 11, 11);
        int[] fallen = {0, 0, 0, 1, 1, 1, 1, 1, 1, 1, 0, 1, 0};
        for (int tick = 0; tick < fallen.length; tick++) {
            DUE.is("fallen at " + tick, x.about(0, 6), fallen[tick]);
            x.pass(1);
        }
    }

    private static void fallsOfTheFirstAndTheLast() {
        DUE.says("Terms II", "FALLS, 40 at most: of a MIRROR");
        MirrorNet x = Nets.addMirrors(new MirrorNet(), 8);
        x.fall(7, 0, 0);
        x.fall(0, 1, 1);
        for (int m = 0; m < 8; m++) {
            DUE.is("fallen at 0: " + m, x.about(m, 6), m == 7 ? 1 : 0);
        }
        x.pass(1);
        for (int m = 0; m < 8; m++) {
            DUE.is("fallen at 1: " + m, x.about(m, 6), m == 0 ? 1 : 0);
        }
    }

    private static void liesWithoutIt() {
        DUE.says("promise 8", "False without it.");
        MirrorNet x = Nets.addMirrors(new MirrorNet(), 7);
        DUE.is("lies(7, true)", x.lies(7, true), false);
        DUE.is("lies(7, false)", x.lies(7, false), false);
        for (int odd : Nets.NEVER) {
            DUE.is("lies(" + odd + ", true)", x.lies(odd, true), false);
        }
        for (int m = 0; m < 7; m++) {
            DUE.is("about(" + m + ", 7)", x.about(m, 7), 0);
        }
        x.mirror(-1, 1, 0);
        DUE.is("the last one, when it has come", x.lies(7, true), true);
        DUE.is("lies(8, true)", x.lies(8, true), false);
        DUE.is("the first one", x.lies(0, true), true);
    }

    private static void liesThatChangeNothing() {
        DUE.says("promise 8", "whether that changed anything");
        MirrorNet x = Nets.addMirrors(new MirrorNet(), 2);
        boolean[] tell = {false, true, true, false, false, true};
        boolean[] due = {false, true, false, true, false, true};
        for (int k = 0; k < tell.length; k++) {
            DUE.is("lies(1, " + tell[k] + "), call " + k, x.lies(1, tell[k]), due[k]);
            DUE.is("about(1, 7)", x.about(1, 7), tell[k] ? 1 : 0);
            DUE.is("about(0, 7)", x.about(0, 7), 0);
        }
    }

    private static void ticksToPass() {
        DUE.says("promise 9", "So many TICKS (1 to 500) go by: NOW");
        MirrorNet x = new MirrorNet();
        DUE.is("pass(1)", x.pass(1), 1);
        DUE.is("pass(500)", x.pass(500), 501);
        DUE.says("promise 9", "NONE, and nothing happens, for others");
        for (int odd : new int[] {0, 501, -1, -500, 9999, 65537, Integer.MIN_VALUE, Integer.MAX_VALUE}) {
            DUE.is("pass(" + odd + ")", x.pass(odd), -1);
            DUE.is("NOW", x.count(0), 501);
        }
    }

    private static void passBeyondTheLastTick() {
        DUE.says("promise 9", "or beyond 9999");
        MirrorNet x = Nets.withFiles(500);
        x.mirror(-1, 1, 0);
        Nets.goTo(x, 9500);
        DUE.is("pass(500) at 9500", x.pass(500), -1);
        DUE.is("NOW", x.count(0), 9500);
        x.put(0, 0);
        DUE.is("pass(499) at 9500", x.pass(499), 9999);
        DUE.is("a byte for each of the ticks", x.about(0, 5), 499);
        DUE.is("pass(1) at 9999", x.pass(1), -1);
        DUE.is("pass(500) at 9999", x.pass(500), -1);
        DUE.is("NOW", x.count(0), 9999);
        DUE.is("no byte was taken", x.about(0, 5), 499);
        MirrorNet y = Nets.goTo(new MirrorNet(), 9998);
        DUE.is("pass(2) at 9998", y.pass(2), -1);
        DUE.is("pass(1) at 9998", y.pass(1), 9999);
        MirrorNet z = Nets.goTo(new MirrorNet(), 9499);
        DUE.is("pass(500) at 9499", z.pass(500), 9999);
    }

    private static void laterThanItsOwn() {
        DUE.says("Terms II", "if that is later than its own, is its TARGET");
        MirrorNet x = Nets.withFiles(50);
        x.mirror(-1, 1, 0);
        x.mirror(0, 1, 0);
        x.pass(1);
        DUE.is("state 0 is not later than state 0", x.about(0, 1), -1);
        x.put(0, 0);
        DUE.is("not ahead of the tick", x.about(0, 1), -1);
        x.pass(1);
        DUE.is("state 1 is", x.about(0, 1), 1);
        DUE.is("but not the INDEX of the mirror ahead", x.about(1, 1), -1);
        x.pass(49);
        DUE.is("the INDEX of the mirror ahead, at last", x.about(1, 1), 1);
        x.pass(49);
        DUE.is("it has it", x.about(1, 0), 1);
        x.pass(1);
        DUE.is("and no TARGET", x.about(1, 1), -1);
    }

    private static void aFileJustInATick() {
        DUE.says("Terms II", "bytes are taken until it is whole (DONE is 0 then, it has it) or none are left to go");
        int[] speeds = {99, 100, 101};
        for (int speed : speeds) {
            MirrorNet x = Nets.withFiles(100);
            x.mirror(-1, speed, 0);
            x.put(0, 0);
            x.pass(1);
            boolean whole = speed >= 100;
            DUE.is("INDEX at speed " + speed, x.about(0, 0), whole ? 1 : 0);
            DUE.is("has at speed " + speed, x.has(0, 0), whole ? 1 : 0);
            DUE.is("DONE at speed " + speed, x.about(0, 4), whole ? 0 : 99);
            DUE.is("taken at speed " + speed, x.about(0, 5), whole ? 100 : 99);
            DUE.is("wanted at speed " + speed, x.about(0, 8), whole ? -1 : 1);
        }
    }

    private static void filesJustInATick() {
        DUE.says("Terms II", "and so on");
        int[][] due = {{69, 2, 39, 1, 0}, {70, 3, 0, -1, 1}, {71, 3, 0, -1, 1}, {30, 2, 0, 40, 0}, {31, 2, 1, 39, 0}};
        for (int[] one : due) {
            MirrorNet x = Nets.withFiles(10, 20, 40);
            x.mirror(-1, one[0], 0);
            x.put(0, 2);
            x.put(1, 1);
            x.put(2, 0);
            x.pass(1);
            DUE.is("files at speed " + one[0], x.about(0, 2), one[1]);
            DUE.is("DONE at speed " + one[0], x.about(0, 4), one[2]);
            DUE.is("wanted at speed " + one[0], x.about(0, 8), one[3]);
            DUE.is("INDEX at speed " + one[0], x.about(0, 0), one[4] * 3);
        }
    }

    private static void theSlowestAndTheGreatest() {
        DUE.says("Terms II", "its SPEED (1 to 1000 bytes a TICK)");
        MirrorNet x = Nets.withFiles(500);
        x.mirror(-1, 1, 0);
        x.put(0, 0);
        x.pass(499);
        DUE.is("DONE", x.about(0, 4), 499);
        DUE.is("wanted", x.about(0, 8), 1);
        DUE.is("has", x.has(0, 0), 0);
        x.pass(1);
        DUE.is("DONE", x.about(0, 4), 0);
        DUE.is("wanted", x.about(0, 8), -1);
        DUE.is("has", x.has(0, 0), 1);
        DUE.is("INDEX", x.about(0, 0), 1);
    }

    private static void theMostInATick() {
        DUE.says("Terms II", "it has SPEED bytes to go");
        MirrorNet x = Nets.withBytes(60);
        for (int pack = 0; pack < 12; pack++) {
            x.put(pack, 59 - pack);
        }
        x.mirror(-1, 11, 0);
        x.mirror(-1, 12, 0);
        x.pass(1);
        DUE.is("eleven of twelve", x.about(0, 2), 11);
        DUE.is("the greatest number is left", x.has(0, 59), 0);
        DUE.is("twelve of twelve", x.about(1, 2), 12);
        DUE.is("with the index", x.about(1, 0), 12);
        MirrorNet y = Nets.withFiles(500, 500, 1);
        y.mirror(-1, 1000, 0);
        for (int pack = 0; pack < 3; pack++) {
            y.put(pack, pack);
        }
        y.pass(1);
        DUE.is("a thousand bytes, no more", y.about(0, 5), 1000);
        DUE.is("one is wanted", y.about(0, 8), 1);
    }

    private static void fallenInTheLastTickOfAFile() {
        DUE.says("Terms II", "(a) one that is FALLEN: DONE is 0, else nothing.");
        MirrorNet x = Nets.withFiles(4, 6);
        x.mirror(-1, 3, 0);
        x.put(0, 0);
        x.put(1, 1);
        x.fall(0, 3, 3);
        x.pass(3);
        DUE.is("DONE of the second file", x.about(0, 4), 5);
        x.pass(1);
        DUE.is("DONE is lost", x.about(0, 4), 0);
        DUE.is("the whole file is not", x.has(0, 0), 1);
        DUE.is("nor the TARGET", x.about(0, 1), 2);
        DUE.is("nor what was taken", x.about(0, 5), 9);
        DUE.is("wanted again", x.about(0, 8), 6);
        x.pass(2);
        DUE.is("INDEX", x.about(0, 0), 2);
        DUE.is("bytes taken, of ten", x.about(0, 5), 15);
    }

    private static void gapOfOneTick() {
        DUE.says("Terms II", "One whose MIRROR ahead is FALLEN: nothing.");
        MirrorNet x = Nets.withFiles(9);
        x.mirror(-1, 9, 0);
        x.mirror(0, 4, 0);
        x.put(0, 0);
        x.pass(1);
        x.fall(0, 1, 2);
        x.fall(0, 4, 4);
        int[] done = {4, 4, 4, 8, 8, 0};
        for (int k = 0; k < done.length; k++) {
            DUE.is("DONE at " + (1 + k), x.about(1, 4), done[k]);
            DUE.is("TARGET at " + (1 + k), x.about(1, 1), k < 5 ? 1 : -1);
            x.pass(1);
        }
        MirrorNet y = Nets.withFiles(9);
        y.mirror(-1, 9, 0);
        y.mirror(0, 4, 0);
        y.put(0, 0);
        y.pass(1);
        y.fall(0, 1, 1);
        y.fall(1, 1, 1);
        y.pass(1);
        DUE.is("both fallen: DONE is lost", y.about(1, 4), 0);
    }

    private static void theShelfHasAll() {
        DUE.says("Terms I", "The SHELF has all FILES.");
        MirrorNet x = Nets.withFiles(10);
        x.mirror(-1, 9, 0);
        x.put(0, 0);
        x.pass(1);
        x.yank(0);
        x.pass(1);
        DUE.is("a yanked file can be ended", x.has(0, 0), 1);
        DUE.is("with the INDEX that names it", x.about(0, 0), 1);
        x.pass(1);
        DUE.is("the next INDEX drops it", x.about(0, 0) * 10 + x.has(0, 0), 20);
    }

    /** Mirror 1 copies files 0 and 1 of state 2 from mirror 0, which then drops file 1, at so many bytes a tick. */
    private static MirrorNet dropped(int speed) {
        MirrorNet x = Nets.withFiles(6, 6, 1);
        x.mirror(-1, 1000, 0);
        x.mirror(0, 3, 0);
        x.put(0, 0);
        x.put(1, 1);
        x.pass(1);
        x.put(1, 2);
        x.speed(1, speed);
        x.pass(1);
        return x;
    }

    private static void theSourceHasItNot() {
        DUE.says("Terms II", "if what it copies from has it not: the TARGET is gone, DONE is 0, and its TICK is over.");
        int[][] due = {{2, 2, 0, 5}, {3, 2, 1, 0}, {4, -1, 1, 0}};
        for (int[] one : due) {
            MirrorNet x = dropped(one[0]);
            DUE.is("TARGET at speed " + one[0], x.about(1, 1), one[1]);
            DUE.is("files at speed " + one[0], x.about(1, 2), one[2]);
            DUE.is("DONE at speed " + one[0], x.about(1, 4), one[3]);
            DUE.is("INDEX at speed " + one[0], x.about(1, 0), 0);
            DUE.is("taken at speed " + one[0], x.about(1, 5), Math.min(6, 3 + one[0]));
        }
        MirrorNet x = dropped(4);
        x.pass(1);
        DUE.is("the next tick is with the new one", x.about(1, 0), 3);
        DUE.is("which wanted a byte", x.about(1, 5), 7);
    }

    private static void aTargetOfNothing() {
        DUE.says("Terms II", "(d) With a TARGET all of whose FILES it has: that is its INDEX, the TARGET is gone");
        MirrorNet x = Nets.withFiles(1, 1);
        x.mirror(-1, 1, 0);
        x.yank(1);
        x.pass(1);
        DUE.is("a state that names nothing", x.about(0, 0), 1);
        DUE.is("the TARGET is gone", x.about(0, 1), -1);
        x.put(0, 0);
        x.put(11, 0);
        x.pass(1);
        DUE.is("a state of one byte", x.about(0, 0), 3);
        x.put(5, 0);
        x.pass(1);
        DUE.is("a state of what it has", x.about(0, 0), 4);
        DUE.is("bytes taken", x.about(0, 5), 1);
    }

    /** State 1 to 5 name file 0 to 4, each in its tick. */
    private static MirrorNet kept(int keep) {
        MirrorNet x = Nets.withFiles(1, 2, 3, 4, 5);
        x.mirror(-1, 1000, keep);
        for (int k = 0; k < 5; k++) {
            x.put(0, k);
            x.pass(1);
        }
        return x;
    }

    private static void keepOfNone() {
        DUE.says("Terms II", "FILES go that neither this one nor any of the KEEP INDEXES it had ahead names");
        MirrorNet x = kept(0);
        int[] due = {0, 0, 0, 0, 1};
        for (int k = 0; k < 5; k++) {
            DUE.is("keep 0: has(0, " + k + ")", x.has(0, k), due[k]);
        }
        x.yank(4);
        x.pass(1);
        DUE.is("keep 0: nothing is named", x.about(0, 2), 0);
    }

    private static void keepOfThree() {
        DUE.says("Terms II", "FILES go that neither this one nor any of the KEEP INDEXES it had ahead names");
        MirrorNet x = kept(3);
        int[] due = {0, 1, 1, 1, 1};
        for (int k = 0; k < 5; k++) {
            DUE.is("keep 3: has(0, " + k + ")", x.has(0, k), due[k]);
        }
        x.yank(4);
        x.pass(1);
        int[] then = {0, 0, 1, 1, 1};
        for (int k = 0; k < 5; k++) {
            DUE.is("keep 3, a yanked file is kept too: has(0, " + k + ")", x.has(0, k), then[k]);
        }
        x.pass(500);
        DUE.is("time alone drops nothing", x.about(0, 2), 3);
    }

    private static void fullSet() {
        DUE.says("promise 20", "2: FILES it has, 3: bytes of these");
        MirrorNet x = new MirrorNet();
        for (int k = 0; k < 60; k++) {
            x.file(500);
        }
        x.mirror(-1, 1000, 3);
        for (int k = 0; k < 48; k++) {
            x.put(k % 12, 12 + k);
            if (k % 12 == 11) {
                x.pass(6);
            }
        }
        DUE.is("four indexes of twelve files", x.about(0, 2), 48);
        DUE.is("their bytes", x.about(0, 3), 24000);
        DUE.is("bytes taken", x.about(0, 5), 24000);
        DUE.is("has(0, 11)", x.has(0, 11), 0);
        DUE.is("has(0, 12)", x.has(0, 12), 1);
        DUE.is("has(0, 59)", x.has(0, 59), 1);
    }

    private static void aboutWithoutIt() {
        DUE.says("promise 20", "NONE without it, or for another what");
        MirrorNet x = Nets.busy();
        int[] due = {2, 5, 2, 30, 16, 46, 0, 0, 414};
        for (int what = 0; what < 9; what++) {
            DUE.is("about(0, " + what + ")", x.about(0, what), due[what]);
            DUE.is("about(3, " + what + ")", x.about(3, what), -1);
            for (int odd : Nets.NEVER) {
                DUE.is("about(" + odd + ", " + what + ")", x.about(odd, what), -1);
            }
        }
        DUE.is("about(0, 9)", x.about(0, 9), -1);
        for (int odd : Nets.NEVER) {
            DUE.is("about(0, " + odd + ")", x.about(0, odd), -1);
        }
    }

    private static void aboutWithoutATarget() {
        DUE.says("promise 20", "(8: without a TARGET)");
        MirrorNet x = Nets.withFiles(2);
        x.mirror(-1, 1, 0);
        x.put(0, 0);
        int[] target = {-1, 1, -1};
        int[] wants = {-1, 1, -1};
        for (int k = 0; k < 3; k++) {
            DUE.is("about(0, 1) at " + k, x.about(0, 1), target[k]);
            DUE.is("about(0, 8) at " + k, x.about(0, 8), wants[k]);
            x.pass(1);
        }
    }

    private static void hasWithoutThese() {
        DUE.says("promise 21", "NONE without these.");
        MirrorNet x = Nets.busy();
        DUE.is("has(0, 0)", x.has(0, 0), 1);
        DUE.is("has(0, 3)", x.has(0, 3), 0);
        DUE.is("the file behind the last", x.has(0, 4), -1);
        DUE.is("the last mirror", x.has(2, 0), 1);
        DUE.is("the mirror behind the last", x.has(3, 0), -1);
        DUE.is("neither", x.has(3, 4), -1);
        for (int odd : Nets.NEVER) {
            DUE.is("has(0, " + odd + ")", x.has(0, odd), -1);
            DUE.is("has(" + odd + ", 0)", x.has(odd, 0), -1);
        }
    }
}
