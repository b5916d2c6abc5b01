/** The edges of askers and what they ask: Terms III, promises 10 to 17. */
public final class AskEdgeTest {
    private static final Due DUE = new Due("AskEdgeTest");

    public static void main(String[] args) {
        sixAskers();
        askersAtFirst();
        costsAtFirst();
        costEdges();
        costOfNoMirror();
        bearsEdges();
        graceEdges();
        forgivesNoneAndAll();
        bitsOfPackages();
        onePackageAtLeast();
        allPackages();
        dearestFirstAndLast();
        costsAlike();
        costOfNothing();
        theDearestAsk();
        aheadOfLast();
        ageHeBears();
        ageOfZero();
        ageOfAll();
        graceOfTicks();
        graceOfZero();
        graceOfAll();
        yankedButNotAskedFor();
        fallenAtTheEdges();
        withoutOne();
        namedForAllButOne();
        aheadOfAny();
        askedForAnotherWhat();
        askedByEnding();
        gotWithoutIt();
        gotOfEndings();
        askerWithoutHim();
        badOfAll();
        foresightEdges();
        foresightOfOtherStates();
        foresightOfOtherFiles();
        foresightOfLast();
        foresightOfAgeAndGrace();
        DUE.end();
    }

    /** Package 0 names file 0 in state 1; as many mirrors as told have it, and NOW is 1. */
    private static MirrorNet net(int mirrors) {
        MirrorNet x = Nets.addMirrors(Nets.withFiles(10, 20, 500), mirrors);
        x.put(0, 0);
        x.pass(1);
        return x;
    }

    /** Mirror 0 is at state 1 and stays there: state 2, of tick 1, wants 500 bytes more at a byte a tick. */
    private static MirrorNet lagging() {
        MirrorNet x = net(1);
        x.speed(0, 1);
        x.put(1, 2);
        x.cost(0, 0, 3);
        return x;
    }

    /** INDEX, TICKS spent, askings, FILES got, the PACKAGE that lacks, FORESIGHT. */
    private static void came(MirrorNet x, String when, int... due) {
        for (int what = 0; what < due.length; what++) {
            DUE.is(when + ": asked(" + what + ")", x.asked(what), due[what]);
        }
    }

    private static void sixAskers() {
        DUE.says("Terms III", "ASKERS 0 to 5");
        MirrorNet x = net(1);
        for (int a = 0; a < 6; a++) {
            DUE.is("cost(" + a + ", 0, 2)", x.cost(a, 0, 2), -1);
            DUE.is("bears(" + a + ", 3)", x.bears(a, 3), 9999);
            DUE.is("ask(" + a + ", 1)", x.ask(a, 1), 0);
            DUE.is("forgives(" + a + ")", x.forgives(a), 0);
            DUE.is("asker(" + a + ", 0)", x.asker(a, 0), 1);
        }
        for (int odd : new int[] {6, 7, 8, 32, -1, -32, Integer.MIN_VALUE, Integer.MAX_VALUE}) {
            DUE.says("promise 10", "-2, and nothing happens, for others.");
            DUE.is("cost(" + odd + ", 0, 2)", x.cost(odd, 0, 2), -2);
            DUE.says("promise 11", "NONE, and nothing happens, for others.");
            DUE.is("bears(" + odd + ", 3)", x.bears(odd, 3), -1);
            DUE.says("promise 13", "NONE without him.");
            DUE.is("forgives(" + odd + ")", x.forgives(odd), -1);
            DUE.says("promise 14", "NONE, and nothing happens, for others.");
            DUE.is("ask(" + odd + ", 1)", x.ask(odd, 1), -1);
            DUE.says("promise 17", "NONE without him");
            for (int what = 0; what < 3; what++) {
                DUE.is("asker(" + odd + ", " + what + ")", x.asker(odd, what), -1);
            }
        }
    }

    private static void askersAtFirst() {
        DUE.says("Terms III", "the LAST STATE he saw (NONE at first)");
        MirrorNet x = net(1);
        for (int a = 0; a < 6; a++) {
            DUE.is("asker(" + a + ", 0)", x.asker(a, 0), -1);
            DUE.is("asker(" + a + ", 1)", x.asker(a, 1), 9999);
            DUE.is("asker(" + a + ", 2)", x.asker(a, 2), 0);
        }
        MirrorNet y = Nets.addMirrors(new MirrorNet(), 1);
        y.cost(0, 0, 1);
        y.ask(0, 1);
        DUE.is("state 0 is not NONE", y.asker(0, 0), 0);
        DUE.is("and not ahead of state 0", y.ask(0, 1), 2);
    }

    private static void costsAtFirst() {
        DUE.says("Terms III", "NONE: he doesn't reach it; so at first");
        MirrorNet x = net(8);
        for (int a = 0; a < 6; a++) {
            DUE.is("ask(" + a + ", 1) at first", x.ask(a, 1), 1);
            DUE.is("askings", x.asked(2), 0);
            for (int m = 0; m < 8; m++) {
                DUE.is("cost(" + a + ", " + m + ", 1)", x.cost(a, m, 1), -1);
            }
        }
    }

    private static void costEdges() {
        DUE.says("Terms III", "how many TICKS each asking of each MIRROR costs him (0 to 100;");
        MirrorNet x = net(1);
        DUE.is("cost(0, 0, 0)", x.cost(0, 0, 0), -1);
        DUE.is("cost(0, 0, 100)", x.cost(0, 0, 100), 0);
        DUE.says("promise 10", "-2, and nothing happens, for others.");
        for (int odd : new int[] {101, -2, -100, 65536, Integer.MIN_VALUE, Integer.MAX_VALUE}) {
            DUE.is("cost(0, 0, " + odd + ")", x.cost(0, 0, odd), -2);
            DUE.is("it is as it was", x.cost(0, 0, 100), 100);
        }
        DUE.says("promise 10", "what it was (NONE: he didn't reach it)");
        DUE.is("cost(0, 0, NONE)", x.cost(0, 0, -1), 100);
        DUE.is("he reaches it no more", x.ask(0, 1), 1);
        DUE.is("askings", x.asked(2), 0);
        DUE.is("cost(0, 0, NONE) again", x.cost(0, 0, -1), -1);
        DUE.is("cost(0, 0, 7)", x.cost(0, 0, 7), -1);
        DUE.is("he reaches it again", x.ask(0, 1), 0);
    }

    private static void costOfNoMirror() {
        DUE.says("promise 10", "-2, and nothing happens, for others.");
        DUE.is("without mirrors", new MirrorNet().cost(0, 0, 1), -2);
        MirrorNet x = net(7);
        DUE.is("cost(0, 6, 1)", x.cost(0, 6, 1), -1);
        DUE.is("cost(0, 7, 1)", x.cost(0, 7, 1), -2);
        DUE.is("cost(0, 7, NONE)", x.cost(0, 7, -1), -2);
        x.mirror(-1, 1, 0);
        DUE.is("nothing had happened: cost(0, 7, 1)", x.cost(0, 7, 1), -1);
        DUE.is("cost(0, 8, 1)", x.cost(0, 8, 1), -2);
        for (int odd : Nets.NEVER) {
            DUE.is("cost(0, " + odd + ", 1)", x.cost(0, odd, 1), -2);
        }
    }

    private static void bearsEdges() {
        DUE.says("Terms III", "the AGE he bears (0 to 9999; 9999 at first)");
        MirrorNet x = new MirrorNet();
        DUE.is("bears(0, 0)", x.bears(0, 0), 9999);
        DUE.is("bears(0, 9999)", x.bears(0, 9999), 0);
        DUE.is("bears(0, 9998)", x.bears(0, 9998), 9999);
        DUE.says("promise 11", "NONE, and nothing happens, for others.");
        for (int odd : new int[] {10000, -1, 65536, Integer.MIN_VALUE, Integer.MAX_VALUE}) {
            DUE.is("bears(0, " + odd + ")", x.bears(0, odd), -1);
            DUE.is("it is as it was", x.asker(0, 1), 9998);
        }
        for (int a = 1; a < 6; a++) {
            DUE.is("another's", x.asker(a, 1), 9999);
        }
    }

    private static void graceEdges() {
        DUE.says("Terms III", "GRACE (0 to 9999; 9999 at first) is for all");
        MirrorNet x = new MirrorNet();
        DUE.is("count(5)", x.count(5), 9999);
        DUE.is("grace(0)", x.grace(0), 9999);
        DUE.is("grace(9999)", x.grace(9999), 0);
        DUE.is("grace(9998)", x.grace(9998), 9999);
        DUE.says("promise 12", "NONE, and nothing happens, for others.");
        for (int odd : new int[] {10000, -1, 65536, Integer.MIN_VALUE, Integer.MAX_VALUE}) {
            DUE.is("grace(" + odd + ")", x.grace(odd), -1);
            DUE.is("it is as it was", x.count(5), 9998);
        }
    }

    private static void forgivesNoneAndAll() {
        DUE.says("promise 13", "An ASKER forgets which MIRRORS are BAD: how many were");
        MirrorNet x = net(8);
        DUE.is("of none", x.forgives(0), 0);
        for (int m = 0; m < 8; m++) {
            x.cost(0, m, 1);
            x.lies(m, true);
        }
        x.ask(0, 1);
        DUE.is("of all", x.forgives(0), 8);
        DUE.is("at once again", x.forgives(0), 0);
        DUE.is("BAD", x.asker(0, 2), 0);
    }

    private static void bitsOfPackages() {
        DUE.says("promise 14", "(PACKAGE p is bit p;");
        MirrorNet x = Nets.addMirrors(Nets.withFiles(10), 1);
        x.put(11, 0);
        x.cost(0, 0, 1);
        x.pass(1);
        for (int pack = 0; pack < 11; pack++) {
            DUE.is("package " + pack, x.ask(0, 1 << pack), 2);
            DUE.is("it lacks", x.asked(4), pack);
        }
        DUE.is("package 11", x.ask(0, 1 << 11), 0);
        DUE.is("got(0, 1)", x.got(0, 1), 11);
        DUE.says("promise 14", "NONE, and nothing happens, for others.");
        for (int bit = 12; bit < 32; bit++) {
            DUE.is("bit " + bit, x.ask(0, 1 << bit), -1);
            DUE.is("bit " + bit + " with package 11", x.ask(0, 1 << bit | 1 << 11), -1);
        }
        DUE.is("the latest ask stands", x.got(0, 1), 11);
    }

    private static void onePackageAtLeast() {
        DUE.says("promise 14", "one at least");
        MirrorNet x = net(1);
        x.cost(0, 0, 1);
        DUE.is("ask(0, 0)", x.ask(0, 0), -1);
        DUE.is("nothing happened", x.asked(2), -1);
        DUE.is("nor to him", x.asker(0, 0), -1);
        DUE.is("ask(0, 1)", x.ask(0, 1), 0);
    }

    private static void allPackages() {
        DUE.says("promise 14", "0 to 3; NONE, and nothing happens, for others.");
        MirrorNet x = Nets.addMirrors(Nets.withFiles(1), 1);
        x.cost(0, 0, 1);
        for (int pack = 0; pack < 12; pack++) {
            x.put(pack, 0);
        }
        x.pass(1);
        DUE.is("ask(0, 4095)", x.ask(0, 4095), 0);
        came(x, "all", 12, 13, 13, 12, -1, 13);
        for (int odd : new int[] {4096, 4097, 8191, -1, Integer.MIN_VALUE, Integer.MAX_VALUE}) {
            DUE.is("ask(0, " + odd + ")", x.ask(0, odd), -1);
        }
        came(x, "all still", 12, 13, 13, 12, -1, 13);
    }

    private static void dearestFirstAndLast() {
        DUE.says("Terms III", "MIRRORS for an ASKER: those he reaches, not BAD, by costs");
        MirrorNet x = net(8);
        for (int m = 0; m < 8; m++) {
            x.cost(0, m, 100 - m);
        }
        x.cost(0, 3, 0);
        DUE.is("ask", x.ask(0, 1), 0);
        DUE.is("of the one that costs nothing", x.got(0, 2), 3);
        x.cost(0, 3, -1);
        x.ask(0, 1);
        DUE.is("then of the last", x.got(0, 2), 7);
        for (int m = 1; m < 8; m++) {
            x.cost(0, m, -1);
        }
        x.ask(0, 1);
        DUE.is("at last of the dearest", x.got(0, 2), 0);
        came(x, "the dearest", 1, 200, 2, 1, -1, 200);
    }

    private static void costsAlike() {
        DUE.says("Terms III", "those of one by numbers");
        MirrorNet x = net(8);
        for (int m = 7; m >= 0; m--) {
            x.cost(0, m, 5);
        }
        for (int m = 0; m < 8; m++) {
            DUE.is("ask with " + m + " fallen", x.ask(0, 1), 0);
            DUE.is("the least number that stands", x.got(0, 2), m);
            came(x, "with " + m + " fallen", 1, 10 * (m + 1), 2 * (m + 1), 1, -1, 10);
            x.fall(m, 1, 1);
        }
        DUE.is("ask with all fallen", x.ask(0, 1), 1);
    }

    private static void costOfNothing() {
        DUE.says("Terms III", "each at its cost");
        MirrorNet x = net(2);
        x.cost(0, 0, 0);
        x.cost(0, 1, 0);
        x.fall(0, 1, 1);
        DUE.is("ask", x.ask(0, 1), 0);
        came(x, "askings that cost nothing are askings", 1, 0, 4, 1, -1, 0);
    }

    private static void theDearestAsk() {
        DUE.says("Terms III", "each at its cost");
        MirrorNet x = Nets.addMirrors(Nets.withFiles(1), 8);
        for (int pack = 0; pack < 12; pack++) {
            x.put(pack, 0);
        }
        x.pass(1);
        for (int m = 0; m < 8; m++) {
            x.cost(5, m, 100);
        }
        for (int m = 0; m < 7; m++) {
            x.fall(m, 1, 1);
        }
        DUE.is("ask", x.ask(5, 4095), 0);
        came(x, "eight mirrors, an index and twelve files", 12, 10400, 104, 12, -1, 1300);
        DUE.is("the last file of the last mirror", x.got(11, 2), 7);
    }

    private static void aheadOfLast() {
        DUE.says("Terms III", "whose INDEX is ahead of his LAST");
        MirrorNet x = net(2);
        x.cost(0, 1, 1);
        x.cost(0, 0, 9);
        x.fall(1, 1, 1);
        x.put(0, 1);
        x.pass(1);
        DUE.is("INDEX of 0", x.about(0, 0), 2);
        DUE.is("INDEX of 1", x.about(1, 0), 1);
        DUE.is("LAST is NONE: none is ahead of it", x.ask(0, 1), 0);
        came(x, "LAST becomes 1", 1, 2, 2, 1, -1, 2);
        DUE.is("LAST is 1: the same will do", x.ask(0, 1), 0);
        came(x, "LAST stays 1", 1, 2, 2, 1, -1, 2);
        x.cost(0, 1, -1);
        DUE.is("LAST is 1: a later one will do", x.ask(0, 1), 0);
        came(x, "LAST becomes 2", 2, 18, 2, 1, -1, 18);
        x.cost(0, 1, 1);
        DUE.is("LAST is 2: 1 is ahead of it", x.ask(0, 1), 0);
        came(x, "LAST stays 2", 2, 20, 4, 1, -1, 18);
        x.cost(0, 0, -1);
        DUE.is("and there is no other", x.ask(0, 1), 1);
        DUE.is("LAST is 2 still", x.asker(0, 0), 2);
    }

    private static void ageHeBears() {
        DUE.says("Terms III", "or its AGE above what he bears");
        MirrorNet x = lagging();
        x.pass(10);
        DUE.is("AGE", x.state(1, 1), 10);
        x.bears(0, 9);
        DUE.is("bears 9", x.ask(0, 1), 1);
        came(x, "bears 9", -1, 3, 1, 0, -1, -1);
        x.bears(0, 10);
        DUE.is("bears 10", x.ask(0, 1), 0);
        x.bears(0, 11);
        DUE.is("bears 11", x.ask(0, 1), 0);
    }

    private static void ageOfZero() {
        DUE.says("Terms III", "the AGE he bears (0 to 9999");
        MirrorNet x = lagging();
        x.bears(0, 0);
        DUE.is("not the latest, but the next came at NOW", x.ask(0, 1), 0);
        x.pass(1);
        DUE.is("a tick later", x.ask(0, 1), 1);
        x.pass(498);
        DUE.is("a tick ahead of the latest", x.ask(0, 1), 1);
        x.pass(1);
        DUE.is("the latest", x.ask(0, 1), 0);
        DUE.is("INDEX", x.asked(0), 2);
    }

    private static void ageOfAll() {
        DUE.says("Terms III", "the AGE he bears (0 to 9999; 9999 at first)");
        MirrorNet x = Nets.withFiles(1);
        x.mirror(-1, 1, 0);
        x.fall(0, 0, 9999);
        x.mirror(0, 1, 0);
        x.cost(0, 1, 1);
        x.put(0, 0);
        Nets.goTo(x, 9999);
        DUE.is("AGE", x.state(0, 1), 9999);
        DUE.is("he bears all there is", x.ask(0, 1), 2);
        x.bears(0, 9998);
        DUE.is("he bears one less", x.ask(0, 1), 1);
    }

    private static void graceOfTicks() {
        DUE.says("Terms III", "or it names a FILE that is YANKED for more than GRACE TICKS");
        MirrorNet x = lagging();
        x.yank(0);
        x.pass(10);
        x.grace(9);
        DUE.is("grace 9", x.ask(0, 1), 1);
        came(x, "grace 9", -1, 3, 1, 0, -1, -1);
        DUE.is("LAST", x.asker(0, 0), -1);
        x.grace(10);
        DUE.is("grace 10", x.ask(0, 1), 0);
        x.pass(1);
        DUE.is("grace 10, a tick later", x.ask(0, 1), 1);
    }

    private static void graceOfZero() {
        DUE.says("Terms III", "GRACE (0 to 9999");
        MirrorNet x = lagging();
        x.grace(0);
        x.yank(0);
        DUE.is("in the tick of the yank", x.ask(0, 1), 0);
        x.pass(1);
        DUE.is("a tick later", x.ask(0, 1), 1);
    }

    private static void graceOfAll() {
        DUE.says("Terms III", "GRACE (0 to 9999; 9999 at first)");
        MirrorNet x = Nets.withFiles(10);
        x.mirror(-1, 1000, 0);
        x.cost(0, 0, 1);
        x.put(0, 0);
        x.pass(1);
        x.fall(0, 1, 9998);
        x.yank(0);
        Nets.goTo(x, 9999);
        DUE.is("YANKED for 9998 ticks", x.ask(0, 1), 0);
        x.grace(9998);
        DUE.is("grace 9998", x.ask(0, 1), 0);
        x.grace(9997);
        DUE.is("grace 9997", x.ask(0, 1), 1);
    }

    private static void yankedButNotAskedFor() {
        DUE.says("Terms III", "or it names a FILE that is YANKED");
        MirrorNet x = Nets.addMirrors(Nets.withBytes(60), 1);
        x.put(0, 0);
        x.put(11, 59);
        x.cost(0, 0, 1);
        x.grace(0);
        x.pass(1);
        x.fall(0, 1, 1);
        x.yank(59);
        x.yank(30);
        x.pass(1);
        DUE.is("package 0, while package 11 names a yanked file", x.ask(0, 1), 1);
        x.pass(1);
        DUE.is("the new index names none", x.ask(0, 1), 0);
    }

    private static void fallenAtTheEdges() {
        DUE.says("Terms III", "one that is FALLEN: the next");
        MirrorNet x = net(1);
        x.cost(0, 0, 1);
        x.fall(0, 3, 4);
        int[] due = {0, 0, 1, 1, 0};
        for (int tick = 1; tick <= 5; tick++) {
            DUE.is("ask at " + tick, x.ask(0, 1), due[tick - 1]);
            DUE.is("it costs at " + tick, x.asked(1), due[tick - 1] == 0 ? 2 : 1);
            x.pass(1);
        }
    }

    private static void withoutOne() {
        DUE.says("Terms III", "Without one: 1.");
        MirrorNet none = Nets.withFiles(1);
        none.put(0, 0);
        DUE.is("no mirror", none.ask(0, 1), 1);
        came(none, "no mirror", -1, 0, 0, 0, -1, -1);
        MirrorNet x = net(2);
        DUE.is("none that he reaches", x.ask(0, 1), 1);
        came(x, "none that he reaches", -1, 0, 0, 0, -1, -1);
        x.cost(0, 0, 4);
        x.cost(0, 1, 6);
        x.lies(0, true);
        x.fall(1, 1, 1);
        DUE.is("one lies, one is fallen", x.ask(0, 1), 1);
        came(x, "one lies, one is fallen", -1, 10, 2, 0, -1, -1);
        DUE.is("again", x.ask(0, 1), 1);
        came(x, "the liar is not asked again", -1, 6, 1, 0, -1, -1);
        x.lies(1, true);
        x.pass(1);
        x.ask(0, 1);
        DUE.is("all are BAD", x.ask(0, 1), 1);
        came(x, "all are BAD", -1, 0, 0, 0, -1, -1);
    }

    private static void namedForAllButOne() {
        DUE.says("Terms III", "If it doesn't name a FILE for each of the PACKAGES: 2.");
        for (int lacks = 0; lacks < 12; lacks++) {
            MirrorNet x = Nets.addMirrors(Nets.withFiles(1), 1);
            x.cost(0, 0, 2);
            for (int pack = 0; pack < 12; pack++) {
                if (pack != lacks) {
                    x.put(pack, 0);
                }
            }
            x.pass(1);
            DUE.is("all but " + lacks + ", all are asked for", x.ask(0, 4095), 2);
            came(x, "no file is asked for", 11, 2, 1, 0, lacks, -1);
            DUE.is("LAST all the same", x.asker(0, 0), 11);
            DUE.is("all but " + lacks + ", which is not asked for", x.ask(0, 4095 & ~(1 << lacks)), 0);
            came(x, "all are got", 11, 24, 12, 11, -1, 24);
        }
        MirrorNet empty = Nets.addMirrors(new MirrorNet(), 1);
        empty.cost(0, 0, 2);
        DUE.is("state 0 names nothing", empty.ask(0, 4095), 2);
        came(empty, "the least", 0, 2, 1, 0, 0, -1);
    }

    private static void aheadOfAny() {
        DUE.says("promise 15", "NONE ahead of any");
        MirrorNet x = net(1);
        for (int what = 0; what < 6; what++) {
            DUE.is("asked(" + what + ")", x.asked(what), -1);
        }
        DUE.says("promise 15", "Of the latest ask() that was not NONE");
        x.ask(0, 0);
        x.ask(6, 1);
        for (int what = 0; what < 6; what++) {
            DUE.is("asked(" + what + ") behind asks that were NONE", x.asked(what), -1);
        }
        x.ask(0, 1);
        DUE.is("TICKS spent by one who reaches none", x.asked(1), 0);
    }

    private static void askedForAnotherWhat() {
        DUE.says("promise 15", "or for another what.");
        MirrorNet x = net(1);
        x.cost(0, 0, 2);
        x.ask(0, 1);
        DUE.is("asked(5)", x.asked(5), 4);
        DUE.is("asked(6)", x.asked(6), -1);
        for (int odd : Nets.NEVER) {
            DUE.is("asked(" + odd + ")", x.asked(odd), -1);
        }
    }

    private static void askedByEnding() {
        MirrorNet x = net(1);
        x.cost(0, 0, 2);
        DUE.says("promise 15", "0: the INDEX (NONE of 1)");
        x.ask(1, 1);
        DUE.is("of 1", x.asked(0), -1);
        x.ask(0, 2);
        DUE.is("of 2", x.asked(0), 1);
        x.ask(0, 1);
        DUE.is("of 0", x.asked(0), 1);
        DUE.says("promise 15", "(the least; NONE of 0, 1)");
        DUE.is("of 0", x.asked(4), -1);
        x.ask(1, 1);
        DUE.is("of 1", x.asked(4), -1);
        x.ask(0, 4095);
        DUE.is("of 2", x.asked(4), 1);
        DUE.says("promise 15", "5: FORESIGHT (NONE but of 0)");
        DUE.is("of 2", x.asked(5), -1);
        x.ask(0, 1);
        DUE.is("of 0", x.asked(5), 4);
        x.ask(1, 1);
        DUE.is("of 1", x.asked(5), -1);
    }

    private static void gotWithoutIt() {
        DUE.says("promise 16", "NONE without it, or for another what.");
        MirrorNet x = net(1);
        DUE.is("got(0, 0) ahead of any", x.got(0, 0), -1);
        x.put(11, 1);
        x.pass(1);
        x.cost(0, 0, 2);
        x.ask(0, 1 | 1 << 11);
        int[][] due = {{0, 0, 0}, {1, 11, 0}, {-1, -1, -1}};
        for (int k = 0; k < 3; k++) {
            for (int what = 0; what < 3; what++) {
                DUE.is("got(" + k + ", " + what + ")", x.got(k, what), due[k][what]);
            }
            DUE.is("got(" + k + ", 3)", x.got(k, 3), -1);
        }
        for (int odd : Nets.NEVER) {
            DUE.is("got(" + odd + ", 0)", x.got(odd, 0), -1);
            DUE.is("got(0, " + odd + ")", x.got(0, odd), -1);
        }
        DUE.is("got(12, 0)", x.got(12, 0), -1);
    }

    private static void gotOfEndings() {
        DUE.says("promise 16", "Of FILE k got by it");
        MirrorNet x = net(1);
        x.cost(0, 0, 2);
        x.ask(0, 1);
        DUE.is("of 0", x.got(0, 0), 0);
        x.ask(0, 3);
        DUE.is("of 2, though package 0 is named", x.got(0, 0), -1);
        x.ask(0, 1);
        x.ask(1, 1);
        DUE.is("of 1", x.got(0, 0), -1);
        x.ask(0, 1);
        x.ask(0, 0);
        DUE.is("of 0, behind an ask that was NONE", x.got(0, 0), 0);
    }

    private static void askerWithoutHim() {
        DUE.says("promise 17", "NONE without him, or for another what.");
        MirrorNet x = net(1);
        x.cost(5, 0, 2);
        x.ask(5, 1);
        x.bears(5, 77);
        int[] due = {1, 77, 0};
        for (int what = 0; what < 3; what++) {
            DUE.is("asker(5, " + what + ")", x.asker(5, what), due[what]);
            DUE.is("asker(6, " + what + ")", x.asker(6, what), -1);
            for (int odd : Nets.NEVER) {
                DUE.is("asker(" + odd + ", " + what + ")", x.asker(odd, what), -1);
            }
        }
        DUE.is("asker(5, 3)", x.asker(5, 3), -1);
        for (int odd : Nets.NEVER) {
            DUE.is("asker(5, " + odd + ")", x.asker(5, odd), -1);
        }
    }

    private static void badOfAll() {
        DUE.says("promise 17", "2: BAD MIRRORS (MIRROR m is bit m)");
        MirrorNet x = net(8);
        DUE.is("none", x.asker(0, 2), 0);
        for (int m = 7; m >= 0; m--) {
            x.lies(m, true);
            x.cost(0, m, 3);
            DUE.is("ask of mirror " + m, x.ask(0, 1), 1);
            DUE.is("BAD from " + m + " on", x.asker(0, 2), 256 - (1 << m));
        }
        DUE.is("another's", x.asker(1, 2), 0);
    }

    private static void foresightEdges() {
        DUE.says("Terms III", "the least cost of a MIRROR that he reaches (known as BAD or not)");
        MirrorNet x = net(3);
        x.cost(0, 1, 100);
        x.ask(0, 1);
        came(x, "the dearest alone", 1, 200, 2, 1, -1, 200);
        x.cost(0, 0, 0);
        x.lies(0, true);
        x.ask(0, 1);
        came(x, "a liar would have given nothing", 1, 200, 3, 1, -1, 200);
        x.lies(0, false);
        x.ask(0, 1);
        came(x, "BAD, but honest again", 1, 200, 2, 1, -1, 0);
        x.fall(0, 1, 1);
        x.ask(0, 1);
        came(x, "a fallen one would have given nothing", 1, 200, 2, 1, -1, 200);
        x.pass(1);
        x.cost(0, 0, -1);
        x.ask(0, 1);
        came(x, "one that he doesn't reach neither", 1, 200, 2, 1, -1, 200);
    }

    /**
     * At tick 3 mirror 0 (of cost 5, honest, but BAD to asker 0) is at state 2, of AGE 2, whose package 5 names a file
     * that is YANKED for 2 ticks; mirror 1 (of cost 50) is at state 4, the latest, which names a file for package 11.
     * Both name the same file for package 0. LAST is NONE.
     */
    private static MirrorNet badButHonest() {
        MirrorNet x = Nets.addMirrors(Nets.withFiles(10, 20, 500), 2);
        x.put(0, 0);
        x.put(5, 1);
        x.pass(1);
        x.speed(0, 1);
        x.yank(1);
        x.put(11, 2);
        x.cost(0, 0, 5);
        x.lies(0, true);
        x.ask(0, 1);
        x.lies(0, false);
        x.cost(0, 1, 50);
        x.pass(2);
        return x;
    }

    private static void foresightOfOtherStates() {
        DUE.says("Terms III", "that would have given an INDEX with the same FILES for these PACKAGES");
        MirrorNet x = badButHonest();
        DUE.is("INDEX of 0", x.about(0, 0), 2);
        DUE.is("INDEX of 1", x.about(1, 0), 4);
        DUE.is("BAD", x.asker(0, 2), 1);
        DUE.is("package 0", x.ask(0, 1), 0);
        came(x, "state 2 names the same file for it", 4, 100, 2, 1, -1, 10);
        MirrorNet y = badButHonest();
        DUE.is("packages 0 and 11", y.ask(0, 1 | 1 << 11), 0);
        came(y, "state 2 names no file for package 11", 4, 150, 3, 2, -1, 105);
    }

    /**
     * At tick 2 mirror 0 (of cost 5, honest, but BAD to asker 0) is at state 2 and mirror 1 (of cost 50) at state 3:
     * they name the same file for the package that is alike, and two files for the other. LAST is NONE.
     */
    private static MirrorNet otherFileFor(int other, int alike) {
        MirrorNet x = Nets.addMirrors(Nets.withFiles(10, 20, 500), 2);
        x.put(other, 0);
        x.put(alike, 1);
        x.pass(1);
        x.speed(0, 1);
        x.put(other, 2);
        x.cost(0, 0, 5);
        x.lies(0, true);
        x.ask(0, 1 << alike);
        x.lies(0, false);
        x.cost(0, 1, 50);
        x.pass(1);
        return x;
    }

    private static void foresightOfOtherFiles() {
        DUE.says("Terms III", "an INDEX with the same FILES for these PACKAGES");
        for (int other = 0; other < 12; other++) {
            int alike = (other + 1) % 12;
            MirrorNet x = otherFileFor(other, alike);
            DUE.is("package " + alike, x.ask(0, 1 << alike), 0);
            came(x, "another file for " + other + " alone", 3, 100, 2, 1, -1, 10);
            MirrorNet y = otherFileFor(other, alike);
            DUE.is("package " + other, y.ask(0, 1 << other), 0);
            came(y, "another file for " + other, 3, 100, 2, 1, -1, 100);
            MirrorNet z = otherFileFor(other, alike);
            DUE.is("packages " + other + " and " + alike, z.ask(0, 1 << other | 1 << alike), 0);
            came(z, "another file for one of two", 3, 150, 3, 2, -1, 105);
        }
    }

    private static void foresightOfLast() {
        DUE.says("Terms III", "his LAST as it was ahead");
        MirrorNet x = badButHonest();
        x.ask(0, 1);
        came(x, "it was NONE", 4, 100, 2, 1, -1, 10);
        x.ask(0, 1);
        came(x, "it was 4, so state 2 would not do", 4, 100, 2, 1, -1, 55);
    }

    private static void foresightOfAgeAndGrace() {
        DUE.says("Terms III", "(by all that is told above");
        int[] foresights = {55, 10};
        for (int k = 0; k < 2; k++) {
            MirrorNet x = badButHonest();
            x.bears(0, 1 + k);
            DUE.is("an AGE of 2, he bears " + (1 + k), x.ask(0, 1), 0);
            DUE.is("FORESIGHT", x.asked(5), foresights[k]);
            MirrorNet y = badButHonest();
            y.grace(1 + k);
            DUE.is("a file YANKED for 2 ticks, GRACE is " + (1 + k), y.ask(0, 1), 0);
            DUE.is("FORESIGHT", y.asked(5), foresights[k]);
        }
    }
}
