import java.util.Arrays;

/** A shelf of packages, its mirrors, and askers who take an index and its files from them. */
public final class MirrorNet {
    public static final int NONE = -1;

    private static final int LAST_TICK = 9999;
    private static final int MOST_TICKS_AT_ONCE = 500;
    private static final int MOST_FILES = 60;
    private static final int MOST_SIZE = 500;
    private static final int PACKAGES = 12;
    private static final int ALL_PACKAGES = (1 << PACKAGES) - 1;
    private static final int MOST_STATES = 60;
    private static final int MOST_MIRRORS = 8;
    private static final int MOST_SPEED = 1000;
    private static final int MOST_KEEP = 3;
    private static final int MOST_FALLS = 40;
    private static final int ASKERS = 6;
    private static final int MOST_COST = 100;

    private static final int BITS = 32;
    private static final int NOTHING_CHANGED = -2;

    private static final int ALL_GOT = 0;
    private static final int WITHOUT_INDEX = 1;
    private static final int NOT_NAMED = 2;
    private static final int NOT_GIVEN = 3;

    private final Shelf shelf;
    private final Falls falls;
    private final Mirror[] mirrors;
    private final Asker[] askers;
    private final Asking latest;
    private int mirrorCount;
    private int now;
    private int graceTicks;

    public MirrorNet() {
        shelf = new Shelf();
        falls = new Falls();
        mirrors = new Mirror[MOST_MIRRORS];
        askers = new Asker[ASKERS];
        for (int k = 0; k < ASKERS; k++) {
            askers[k] = new Asker();
        }
        latest = new Asking();
        graceTicks = LAST_TICK;
    }

    // ---- the shelf

    public int file(int size) {
        if (!isWithin(size, 1, MOST_SIZE)) {
            return NONE;
        }
        return shelf.addFile(size);
    }

    public int put(int pack, int file) {
        return shelf.addPut(pack, file, now);
    }

    public int yank(int file) {
        return shelf.addYank(file, now);
    }

    public int names(int state, int pack) {
        return shelf.namedBy(state, pack);
    }

    public int state(int k, int what) {
        if (!shelf.hasState(k)) {
            return NONE;
        }
        switch (what) {
            case 0:
                return shelf.tickOf(k);
            case 1:
                return shelf.ageOf(k, now);
            case 2:
                return shelf.packagesNamedIn(k);
            case 3:
                return shelf.bytesOf(shelf.filesOf(k));
            default:
                return NONE;
        }
    }

    // ---- the mirrors

    public int mirror(int from, int speed, int keep) {
        if (mirrorCount >= MOST_MIRRORS || !isWithin(from, NONE, mirrorCount - 1)) {
            return NONE;
        }
        if (!isWithin(speed, 1, MOST_SPEED) || !isWithin(keep, 0, MOST_KEEP)) {
            return NONE;
        }
        mirrors[mirrorCount] = new Mirror(from, speed, keep);
        mirrorCount++;
        return mirrorCount - 1;
    }

    public int speed(int mirror, int speed) {
        Mirror one = mirrorAt(mirror);
        if (one == null || !isWithin(speed, 1, MOST_SPEED)) {
            return NONE;
        }
        int was = one.bytesATick;
        one.bytesATick = speed;
        return was;
    }

    public int fall(int mirror, int from, int to) {
        if (mirrorAt(mirror) == null || !isWithin(from, now, LAST_TICK) || !isWithin(to, from, LAST_TICK)) {
            return NONE;
        }
        return falls.add(mirror, from, to);
    }

    public boolean lies(int mirror, boolean is) {
        Mirror one = mirrorAt(mirror);
        if (one == null || one.isLiar == is) {
            return false;
        }
        one.isLiar = is;
        return true;
    }

    public int pass(int ticks) {
        if (!isWithin(ticks, 1, MOST_TICKS_AT_ONCE) || ticks > LAST_TICK - now) {
            return NONE;
        }
        for (int k = 0; k < ticks; k++) {
            stepAll();
            now++;
        }
        return now;
    }

    public int about(int mirror, int what) {
        Mirror one = mirrorAt(mirror);
        if (one == null) {
            return NONE;
        }
        switch (what) {
            case 0:
                return one.index;
            case 1:
                return one.target;
            case 2:
                return Long.bitCount(one.files);
            case 3:
                return shelf.bytesOf(one.files);
            case 4:
                return one.done;
            case 5:
                return one.taken;
            case 6:
                return isIn(falls.downAt(now), mirror) ? 1 : 0;
            case 7:
                return one.isLiar ? 1 : 0;
            case 8:
                return one.bytesWanted(shelf);
            default:
                return NONE;
        }
    }

    public int has(int mirror, int file) {
        Mirror one = mirrorAt(mirror);
        if (one == null || !shelf.hasFile(file)) {
            return NONE;
        }
        return one.holds(file) ? 1 : 0;
    }

    // ---- the askers

    public int cost(int asker, int mirror, int ticks) {
        Asker who = askerAt(asker);
        if (who == null || mirrorAt(mirror) == null || !isWithin(ticks, NONE, MOST_COST)) {
            return NOTHING_CHANGED;
        }
        int was = who.costOf(mirror);
        who.setCost(mirror, ticks);
        return was;
    }

    public int bears(int asker, int age) {
        Asker who = askerAt(asker);
        if (who == null || !isWithin(age, 0, LAST_TICK)) {
            return NONE;
        }
        int was = who.mostAge;
        who.mostAge = age;
        return was;
    }

    public int grace(int ticks) {
        if (!isWithin(ticks, 0, LAST_TICK)) {
            return NONE;
        }
        int was = graceTicks;
        graceTicks = ticks;
        return was;
    }

    public int forgives(int asker) {
        Asker who = askerAt(asker);
        if (who == null) {
            return NONE;
        }
        int were = Integer.bitCount(who.bad);
        who.bad = 0;
        return were;
    }

    public int ask(int asker, int packages) {
        Asker who = askerAt(asker);
        if (who == null || !isWithin(packages, 1, ALL_PACKAGES)) {
            return NONE;
        }
        int lastAhead = who.last;
        int down = falls.downAt(now);
        latest.begin();
        who.lineUp();
        int answer = carryOut(who, packages, down);
        if (answer == ALL_GOT) {
            latest.foresight = foresee(who, packages, lastAhead, down);
        }
        return answer;
    }

    public int asked(int what) {
        if (!latest.isAny) {
            return NONE;
        }
        switch (what) {
            case 0:
                return latest.index;
            case 1:
                return latest.spent;
            case 2:
                return latest.askings;
            case 3:
                return latest.gotCount;
            case 4:
                return latest.lacking;
            case 5:
                return latest.foresight;
            default:
                return NONE;
        }
    }

    public int got(int k, int what) {
        return latest.gotten(k, what);
    }

    public int asker(int k, int what) {
        Asker who = askerAt(k);
        if (who == null) {
            return NONE;
        }
        switch (what) {
            case 0:
                return who.last;
            case 1:
                return who.mostAge;
            case 2:
                return who.bad;
            default:
                return NONE;
        }
    }

    public int count(int what) {
        switch (what) {
            case 0:
                return now;
            case 1:
                return shelf.fileCount;
            case 2:
                return shelf.stateCount;
            case 3:
                return mirrorCount;
            case 4:
                return falls.told;
            case 5:
                return graceTicks;
            case 6:
                return Long.bitCount(shelf.yanked);
            default:
                return NONE;
        }
    }

    // ---- small helps

    private static boolean isWithin(int value, int least, int most) {
        return value >= least && value <= most;
    }

    private static boolean isIn(int set, int number) {
        return isWithin(number, 0, BITS - 1) && (set & (1 << number)) != 0;
    }

    private static long bitOf(int file) {
        return isWithin(file, 0, MOST_FILES - 1) ? 1L << file : 0L;
    }

    /** The least file of a set that is not empty: as many as there are bits below its lowest one. */
    private static int leastOf(long files) {
        return Long.bitCount((files & -files) - 1);
    }

    private Mirror mirrorAt(int number) {
        return isWithin(number, 0, mirrorCount - 1) ? mirrors[number] : null;
    }

    private Asker askerAt(int number) {
        return isWithin(number, 0, ASKERS - 1) ? askers[number] : null;
    }

    // ---- a tick of copying

    private void stepAll() {
        int down = falls.downAt(now);
        for (int k = 0; k < mirrorCount; k++) {
            Mirror one = mirrorAt(k);
            if (one == null) {
                continue;
            }
            Mirror source = mirrorAt(one.source);
            if (isIn(down, k)) {
                one.done = 0;
            } else if (source == null) {
                one.step(shelf, shelf.latestState(), shelf.allFiles());
            } else if (!isIn(down, one.source)) {
                one.step(shelf, source.index, source.files);
            }
        }
    }

    // ---- an asking

    private int carryOut(Asker who, int packages, int down) {
        latest.index = findIndex(who, down);
        if (latest.index == NONE) {
            return WITHOUT_INDEX;
        }
        who.last = latest.index;
        latest.lacking = firstNotNamed(latest.index, packages);
        if (latest.lacking != NONE) {
            return NOT_NAMED;
        }
        latest.lacking = getFiles(who, packages, down);
        return latest.lacking == NONE ? ALL_GOT : NOT_GIVEN;
    }

    private int findIndex(Asker who, int down) {
        for (int place = 0; place < who.lineLength; place++) {
            int number = who.inLine(place);
            Mirror one = mirrorAt(number);
            if (one == null || who.knowsAsBad(number)) {
                continue;
            }
            latest.spend(who.costOf(number));
            if (isIn(down, number)) {
                continue;
            }
            if (one.isLiar) {
                who.markBad(number);
            } else if (suits(one.index, who.mostAge, who.last)) {
                return one.index;
            }
        }
        return NONE;
    }

    private boolean suits(int index, int mostAge, int last) {
        return index >= last
            && shelf.ageOf(index, now) <= mostAge
            && !shelf.namesLongYanked(index, now, graceTicks);
    }

    private int firstNotNamed(int index, int packages) {
        for (int pack = 0; pack < PACKAGES; pack++) {
            if (isIn(packages, pack) && shelf.namedBy(index, pack) == NONE) {
                return pack;
            }
        }
        return NONE;
    }

    /** Answers the first package whose file nobody gave, NONE if there is none. */
    private int getFiles(Asker who, int packages, int down) {
        for (int pack = 0; pack < PACKAGES; pack++) {
            if (!isIn(packages, pack)) {
                continue;
            }
            int file = shelf.namedBy(latest.index, pack);
            int giver = findGiver(who, file, down);
            if (giver == NONE) {
                return pack;
            }
            latest.keepGot(file, pack, giver);
        }
        return NONE;
    }

    private int findGiver(Asker who, int file, int down) {
        for (int place = 0; place < who.lineLength; place++) {
            int number = who.inLine(place);
            Mirror one = mirrorAt(number);
            // the line was made ahead of the asking, which may have found liars since
            if (one == null || who.knowsAsBad(number)) {
                continue;
            }
            latest.spend(who.costOf(number));
            if (isIn(down, number) || !one.holds(file)) {
                continue;
            }
            if (!one.isLiar) {
                return number;
            }
            who.markBad(number);
        }
        return NONE;
    }

    // ---- what one who knew would have spent

    private int foresee(Asker who, int packages, int lastAhead, int down) {
        int total = leastForIndex(who, packages, lastAhead, down);
        for (int pack = 0; pack < PACKAGES; pack++) {
            if (isIn(packages, pack)) {
                total += leastForFile(who, shelf.namedBy(latest.index, pack), down);
            }
        }
        return total;
    }

    private int leastForIndex(Asker who, int packages, int lastAhead, int down) {
        int least = MOST_COST;
        for (int number = 0; number < mirrorCount; number++) {
            Mirror one = mirrorAt(number);
            if (one != null && wouldAnswer(who, one, number, down)
                && suits(one.index, who.mostAge, lastAhead)
                && shelf.namesAlike(one.index, latest.index, packages)) {
                least = Math.min(least, who.costOf(number));
            }
        }
        return least;
    }

    private int leastForFile(Asker who, int file, int down) {
        int least = MOST_COST;
        for (int number = 0; number < mirrorCount; number++) {
            Mirror one = mirrorAt(number);
            if (one != null && wouldAnswer(who, one, number, down) && one.holds(file)) {
                least = Math.min(least, who.costOf(number));
            }
        }
        return least;
    }

    private static boolean wouldAnswer(Asker who, Mirror one, int number, int down) {
        return who.costOf(number) != NONE && !isIn(down, number) && !one.isLiar;
    }

    /** The files and the states; a set of files is a long in which file f is bit f. */
    private static final class Shelf {
        private final int[] sizes;
        private final int[] yankTicks;
        private final int[] stateTicks;
        private final long[] stateFiles;
        private final int[] named;
        private int fileCount;
        private int stateCount;
        private long yanked;

        private Shelf() {
            sizes = new int[MOST_FILES];
            yankTicks = new int[MOST_FILES];
            stateTicks = new int[MOST_STATES];
            stateFiles = new long[MOST_STATES];
            named = new int[MOST_STATES * PACKAGES];
            Arrays.fill(named, NONE);
            stateCount = 1;
        }

        private boolean hasFile(int file) {
            return file >= 0 && file < fileCount;
        }

        private boolean hasState(int state) {
            return state >= 0 && state < stateCount;
        }

        private int latestState() {
            return stateCount - 1;
        }

        private long allFiles() {
            return (1L << fileCount) - 1;
        }

        private int addFile(int size) {
            if (fileCount >= MOST_FILES) {
                return NONE;
            }
            sizes[fileCount] = size;
            fileCount++;
            return fileCount - 1;
        }

        private int addPut(int pack, int file, int tick) {
            if (!isWithin(pack, 0, PACKAGES - 1) || !mayChange(file) || namedBy(latestState(), pack) == file) {
                return NONE;
            }
            int state = addState(tick);
            named[state * PACKAGES + pack] = file;
            gatherFiles(state);
            return state;
        }

        private int addYank(int file, int tick) {
            if (!mayChange(file)) {
                return NONE;
            }
            yanked |= bitOf(file);
            yankTicks[file] = tick;
            int state = addState(tick);
            for (int at = state * PACKAGES; at < (state + 1) * PACKAGES; at++) {
                if (named[at] == file) {
                    named[at] = NONE;
                }
            }
            gatherFiles(state);
            return state;
        }

        private boolean mayChange(int file) {
            return stateCount < MOST_STATES && hasFile(file) && (yanked & bitOf(file)) == 0L;
        }

        /** Only behind mayChange(), which sees that there is room. */
        private int addState(int tick) {
            int state = stateCount;
            System.arraycopy(named, (state - 1) * PACKAGES, named, state * PACKAGES, PACKAGES);
            stateTicks[state] = tick;
            stateCount++;
            return state;
        }

        private void gatherFiles(int state) {
            long files = 0L;
            for (int pack = 0; pack < PACKAGES; pack++) {
                files |= bitOf(namedBy(state, pack));
            }
            stateFiles[state] = files;
        }

        private int namedBy(int state, int pack) {
            if (!hasState(state) || !isWithin(pack, 0, PACKAGES - 1)) {
                return NONE;
            }
            return named[state * PACKAGES + pack];
        }

        private boolean namesAlike(int one, int other, int packages) {
            for (int pack = 0; pack < PACKAGES; pack++) {
                if (isIn(packages, pack) && namedBy(one, pack) != namedBy(other, pack)) {
                    return false;
                }
            }
            return true;
        }

        private boolean namesLongYanked(int state, int now, int graceTicks) {
            long suspects = filesOf(state) & yanked;
            for (int file = 0; file < fileCount && suspects != 0L; file++) {
                if ((suspects & bitOf(file)) != 0L && now - yankTicks[file] > graceTicks) {
                    return true;
                }
            }
            return false;
        }

        private int packagesNamedIn(int state) {
            int naming = 0;
            for (int pack = 0; pack < PACKAGES; pack++) {
                if (namedBy(state, pack) != NONE) {
                    naming++;
                }
            }
            return naming;
        }

        private long filesOf(int state) {
            return hasState(state) ? stateFiles[state] : 0L;
        }

        private int tickOf(int state) {
            return hasState(state) ? stateTicks[state] : NONE;
        }

        private int ageOf(int state, int now) {
            return hasState(state + 1) ? now - stateTicks[state + 1] : 0;
        }

        private int sizeOf(int file) {
            return hasFile(file) ? sizes[file] : 0;
        }

        private int bytesOf(long files) {
            int bytes = 0;
            for (int file = 0; file < fileCount; file++) {
                if ((files & bitOf(file)) != 0L) {
                    bytes += sizes[file];
                }
            }
            return bytes;
        }
    }

    /** When which mirror is fallen; both ticks of a fall belong to it. */
    private static final class Falls {
        private final int[] who;
        private final int[] firsts;
        private final int[] lasts;
        private int told;

        private Falls() {
            who = new int[MOST_FALLS];
            firsts = new int[MOST_FALLS];
            lasts = new int[MOST_FALLS];
        }

        private int add(int mirror, int from, int to) {
            if (told >= MOST_FALLS) {
                return NONE;
            }
            who[told] = mirror;
            firsts[told] = from;
            lasts[told] = to;
            told++;
            return told;
        }

        /** The mirrors that are fallen in a tick: mirror m is bit m. */
        private int downAt(int tick) {
            int down = 0;
            for (int k = 0; k < told; k++) {
                if (isWithin(tick, firsts[k], lasts[k])) {
                    down |= 1 << who[k];
                }
            }
            return down;
        }
    }

    /** A mirror; source is the number of the mirror it copies from, NONE for the shelf. */
    private static final class Mirror {
        private final int source;
        private final int keep;
        private final int[] earlier;
        private int bytesATick;
        private int index;
        private int target;
        private long files;
        private int done;
        private int taken;
        private boolean isLiar;

        private Mirror(int source, int bytesATick, int keep) {
            this.source = source;
            this.bytesATick = bytesATick;
            this.keep = keep;
            earlier = new int[MOST_KEEP];
            Arrays.fill(earlier, NONE);
            target = NONE;
        }

        private boolean holds(int file) {
            return (files & bitOf(file)) != 0L;
        }

        private long missing(Shelf shelf) {
            return shelf.filesOf(target) & ~files;
        }

        private int bytesWanted(Shelf shelf) {
            return target == NONE ? NONE : shelf.bytesOf(missing(shelf)) - done;
        }

        private void step(Shelf shelf, int offeredIndex, long offeredFiles) {
            if (target == NONE && offeredIndex > index) {
                target = offeredIndex;
            }
            if (target == NONE) {
                return;
            }
            copyFiles(shelf, offeredFiles);
            if (target != NONE && missing(shelf) == 0L) {
                takeIndex();
                dropOld(shelf);
            }
        }

        private void copyFiles(Shelf shelf, long offeredFiles) {
            int left = bytesATick;
            for (int turn = 0; turn < MOST_FILES && left > 0; turn++) {
                long missing = missing(shelf);
                if (missing == 0L) {
                    return;
                }
                int file = leastOf(missing);
                if ((offeredFiles & bitOf(file)) == 0L) {
                    target = NONE;
                    done = 0;
                    return;
                }
                left -= takeBytes(file, shelf.sizeOf(file), left);
            }
        }

        private int takeBytes(int file, int size, int left) {
            int bytes = Math.min(left, size - done);
            taken += bytes;
            done += bytes;
            if (done >= size) {
                files |= bitOf(file);
                done = 0;
            }
            return bytes;
        }

        private void takeIndex() {
            for (int k = MOST_KEEP - 1; k > 0; k--) {
                earlier[k] = earlier[k - 1];
            }
            earlier[0] = index;
            index = target;
            target = NONE;
        }

        private void dropOld(Shelf shelf) {
            long wanted = shelf.filesOf(index);
            for (int k = 0; k < keep && k < MOST_KEEP; k++) {
                wanted |= shelf.filesOf(earlier[k]);
            }
            files &= wanted;
        }
    }

    /** An asker, and the line of mirrors that his asking goes through. */
    private static final class Asker {
        private final int[] costs;
        private final int[] line;
        private int lineLength;
        private int mostAge;
        private int last;
        private int bad;

        private Asker() {
            costs = new int[MOST_MIRRORS];
            Arrays.fill(costs, NONE);
            line = new int[MOST_MIRRORS];
            mostAge = LAST_TICK;
            last = NONE;
        }

        private int costOf(int mirror) {
            return isWithin(mirror, 0, MOST_MIRRORS - 1) ? costs[mirror] : NONE;
        }

        private void setCost(int mirror, int ticks) {
            if (isWithin(mirror, 0, MOST_MIRRORS - 1)) {
                costs[mirror] = ticks;
            }
        }

        private boolean knowsAsBad(int mirror) {
            return isIn(bad, mirror);
        }

        private void markBad(int mirror) {
            if (isWithin(mirror, 0, MOST_MIRRORS - 1)) {
                bad |= 1 << mirror;
            }
        }

        private int inLine(int place) {
            return isWithin(place, 0, lineLength - 1) ? line[place] : NONE;
        }

        private void lineUp() {
            lineLength = 0;
            for (int mirror = 0; mirror < MOST_MIRRORS; mirror++) {
                if (costs[mirror] != NONE && !knowsAsBad(mirror)) {
                    putInLine(mirror);
                }
            }
        }

        /** Mirrors come by numbers, so one stands behind those of its own cost. */
        private void putInLine(int mirror) {
            if (lineLength >= MOST_MIRRORS) {
                return;
            }
            int place = lineLength;
            while (place > 0 && costs[line[place - 1]] > costs[mirror]) {
                line[place] = line[place - 1];
                place--;
            }
            line[place] = mirror;
            lineLength++;
        }
    }

    /** What the latest asking came to. */
    private static final class Asking {
        private final int[] gotFiles;
        private final int[] gotPackages;
        private final int[] gotMirrors;
        private boolean isAny;
        private int index;
        private int spent;
        private int askings;
        private int gotCount;
        private int lacking;
        private int foresight;

        private Asking() {
            gotFiles = new int[PACKAGES];
            gotPackages = new int[PACKAGES];
            gotMirrors = new int[PACKAGES];
        }

        private void begin() {
            isAny = true;
            index = NONE;
            spent = 0;
            askings = 0;
            gotCount = 0;
            lacking = NONE;
            foresight = NONE;
        }

        private void spend(int ticks) {
            spent += ticks;
            askings++;
        }

        private void keepGot(int file, int pack, int mirror) {
            if (gotCount < PACKAGES) {
                gotFiles[gotCount] = file;
                gotPackages[gotCount] = pack;
                gotMirrors[gotCount] = mirror;
                gotCount++;
            }
        }

        private int gotten(int k, int what) {
            if (!isWithin(k, 0, gotCount - 1)) {
                return NONE;
            }
            switch (what) {
                case 0:
                    return gotFiles[k];
                case 1:
                    return gotPackages[k];
                case 2:
                    return gotMirrors[k];
                default:
                    return NONE;
            }
        }
    }
}
