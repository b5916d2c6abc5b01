import java.util.ArrayList;
import java.util.Arrays;
import java.util.Collections;
import java.util.Comparator;
import java.util.HashSet;
import java.util.List;
import java.util.Map;
import java.util.Set;
import java.util.TreeMap;
import java.util.TreeSet;

/** The document told a second time, slowly and with the library, to hold MirrorNet against. */
final class PlainNet {
    private static final int NONE = -1;

    private record State(int tick, Map<Integer, Integer> named) {
        Set<Integer> files() {
            return new TreeSet<>(named.values());
        }
    }

    private record Fall(int mirror, int from, int to) { }

    private record Got(int file, int pack, int mirror) { }

    private static final class Mirror {
        int from;
        int speed;
        int keep;
        boolean lies;
        int target = NONE;
        int done;
        int taken;
        Set<Integer> files = new TreeSet<>();
        List<Integer> indexes = new ArrayList<>(List.of(0));

        int index() {
            return indexes.get(indexes.size() - 1);
        }
    }

    private static final class Asker {
        Map<Integer, Integer> costs = new TreeMap<>();
        int bears = 9999;
        int last = NONE;
        Set<Integer> bad = new HashSet<>();
    }

    private int now = 0;
    private int grace = 9999;
    private final List<Integer> sizes = new ArrayList<>();
    private final Map<Integer, Integer> yanked = new TreeMap<>();
    private final List<State> states = new ArrayList<>(List.of(new State(0, Map.of())));
    private final List<Mirror> mirrors = new ArrayList<>();
    private final List<Fall> falls = new ArrayList<>();
    private final List<Asker> askers = new ArrayList<>();
    private int[] asked = null;
    private List<Got> got = new ArrayList<>();

    PlainNet() {
        for (int k = 0; k < 6; k++) {
            askers.add(new Asker());
        }
    }

    private static boolean in(int value, int size) {
        return 0 <= value && value < size;
    }

    int file(int size) {
        if (sizes.size() == 60 || size < 1 || size > 500) {
            return NONE;
        }
        sizes.add(size);
        return sizes.size() - 1;
    }

    private int comes(Map<Integer, Integer> named) {
        states.add(new State(now, named));
        return states.size() - 1;
    }

    private Map<Integer, Integer> latestNamed() {
        return new TreeMap<>(states.get(states.size() - 1).named());
    }

    int put(int pack, int file) {
        if (states.size() == 60 || !in(pack, 12) || !in(file, sizes.size()) || yanked.containsKey(file)) {
            return NONE;
        }
        Map<Integer, Integer> named = latestNamed();
        Integer was = named.put(pack, file);
        return was != null && was == file ? NONE : comes(named);
    }

    int yank(int file) {
        if (states.size() == 60 || !in(file, sizes.size()) || yanked.containsKey(file)) {
            return NONE;
        }
        Map<Integer, Integer> named = latestNamed();
        named.values().removeIf(f -> f == file);
        yanked.put(file, now);
        return comes(named);
    }

    int mirror(int from, int speed, int keep) {
        if (mirrors.size() == 8 || from != NONE && !in(from, mirrors.size())
            || speed < 1 || speed > 1000 || keep < 0 || keep > 3) {
            return NONE;
        }
        Mirror m = new Mirror();
        m.from = from;
        m.speed = speed;
        m.keep = keep;
        mirrors.add(m);
        return mirrors.size() - 1;
    }

    int speed(int mirror, int speed) {
        if (!in(mirror, mirrors.size()) || speed < 1 || speed > 1000) {
            return NONE;
        }
        int was = mirrors.get(mirror).speed;
        mirrors.get(mirror).speed = speed;
        return was;
    }

    int fall(int mirror, int from, int to) {
        if (falls.size() == 40 || !in(mirror, mirrors.size()) || !in(from, 10000) || !in(to, 10000)
            || from > to || from < now) {
            return NONE;
        }
        falls.add(new Fall(mirror, from, to));
        return falls.size();
    }

    private boolean fallen(int mirror) {
        return falls.stream().anyMatch(f -> f.mirror() == mirror && f.from() <= now && now <= f.to());
    }

    boolean lies(int mirror, boolean is) {
        if (!in(mirror, mirrors.size())) {
            return false;
        }
        boolean changed = mirrors.get(mirror).lies != is;
        mirrors.get(mirror).lies = is;
        return changed;
    }

    int pass(int ticks) {
        if (ticks < 1 || ticks > 500 || now + ticks > 9999) {
            return NONE;
        }
        for (int t = 0; t < ticks; t++) {
            for (int k = 0; k < mirrors.size(); k++) {
                tick(k);
            }
            now++;
        }
        return now;
    }

    private void tick(int k) {
        Mirror m = mirrors.get(k);
        if (fallen(k)) {
            m.done = 0;
            return;
        }
        if (m.from != NONE && fallen(m.from)) {
            return;
        }
        int ahead = m.from == NONE ? states.size() - 1 : mirrors.get(m.from).index();
        if (m.target == NONE && ahead > m.index()) {
            m.target = ahead;
        }
        if (m.target == NONE) {
            return;
        }
        List<Integer> wanted = wanted(m);
        // byte by byte, so that nothing is shared with the other telling
        for (int left = m.speed; left > 0 && !wanted.isEmpty(); left--) {
            int file = wanted.get(0);
            if (m.from != NONE && !mirrors.get(m.from).files.contains(file)) {
                m.target = NONE;
                m.done = 0;
                return;
            }
            m.done++;
            m.taken++;
            if (m.done == sizes.get(file)) {
                m.done = 0;
                m.files.add(file);
                wanted.remove(0);
            }
        }
        if (wanted.isEmpty()) {
            m.indexes.add(m.target);
            m.target = NONE;
            Set<Integer> stay = new HashSet<>();
            int n = m.indexes.size();
            for (int state : m.indexes.subList(Math.max(0, n - 1 - m.keep), n)) {
                stay.addAll(states.get(state).files());
            }
            m.files.retainAll(stay);
        }
    }

    private List<Integer> wanted(Mirror m) {
        List<Integer> wanted = new ArrayList<>(states.get(m.target).files());
        wanted.removeAll(m.files);
        Collections.sort(wanted);
        return wanted;
    }

    int cost(int asker, int mirror, int ticks) {
        if (!in(asker, 6) || !in(mirror, mirrors.size()) || ticks < -1 || ticks > 100) {
            return -2;
        }
        Map<Integer, Integer> costs = askers.get(asker).costs;
        Integer was = ticks == NONE ? costs.remove(mirror) : costs.put(mirror, ticks);
        return was == null ? NONE : was;
    }

    int bears(int asker, int age) {
        if (!in(asker, 6) || !in(age, 10000)) {
            return NONE;
        }
        int was = askers.get(asker).bears;
        askers.get(asker).bears = age;
        return was;
    }

    int grace(int ticks) {
        if (!in(ticks, 10000)) {
            return NONE;
        }
        int was = grace;
        grace = ticks;
        return was;
    }

    int forgives(int asker) {
        if (!in(asker, 6)) {
            return NONE;
        }
        int were = askers.get(asker).bad.size();
        askers.get(asker).bad.clear();
        return were;
    }

    private int age(int state) {
        return state == states.size() - 1 ? 0 : now - states.get(state + 1).tick();
    }

    private boolean indexIsFine(int index, int last, int bears) {
        if (index < last || age(index) > bears) {
            return false;
        }
        for (int file : states.get(index).files()) {
            if (yanked.containsKey(file) && now - yanked.get(file) > grace) {
                return false;
            }
        }
        return true;
    }

    private List<Integer> mirrorsFor(Asker a) {
        List<Integer> line = new ArrayList<>(a.costs.keySet());
        line.removeAll(a.bad);
        line.sort(Comparator.<Integer>comparingInt(a.costs::get).thenComparingInt(m -> m));
        return line;
    }

    int ask(int asker, int packages) {
        if (!in(asker, 6) || packages < 1 || packages > 4095) {
            return NONE;
        }
        Asker a = askers.get(asker);
        int last = a.last;
        asked = new int[] {NONE, 0, 0, 0, NONE, NONE};
        got = new ArrayList<>();
        List<Integer> packs = new ArrayList<>();
        for (int p = 0; p < 12; p++) {
            if ((packages >> p & 1) == 1) {
                packs.add(p);
            }
        }
        for (int m : mirrorsFor(a)) {
            asked[1] += a.costs.get(m);
            asked[2]++;
            if (fallen(m)) {
                continue;
            }
            if (mirrors.get(m).lies) {
                a.bad.add(m);
                continue;
            }
            if (indexIsFine(mirrors.get(m).index(), a.last, a.bears)) {
                asked[0] = mirrors.get(m).index();
                a.last = asked[0];
                break;
            }
        }
        if (asked[0] == NONE) {
            return 1;
        }
        Map<Integer, Integer> named = states.get(asked[0]).named();
        for (int p : packs) {
            if (!named.containsKey(p)) {
                asked[4] = p;
                return 2;
            }
        }
        for (int p : packs) {
            if (!take(a, p, named.get(p))) {
                asked[4] = p;
                return 3;
            }
        }
        asked[5] = foresight(a, packs, named, last);
        return 0;
    }

    private boolean take(Asker a, int pack, int file) {
        for (int m : mirrorsFor(a)) {
            asked[1] += a.costs.get(m);
            asked[2]++;
            if (fallen(m) || !mirrors.get(m).files.contains(file)) {
                continue;
            }
            if (mirrors.get(m).lies) {
                a.bad.add(m);
                continue;
            }
            got.add(new Got(file, pack, m));
            asked[3]++;
            return true;
        }
        return false;
    }

    private int foresight(Asker a, List<Integer> packs, Map<Integer, Integer> named, int last) {
        List<Integer> honest = new ArrayList<>(a.costs.keySet());
        honest.removeIf(m -> fallen(m) || mirrors.get(m).lies);
        int sum = honest.stream()
            .filter(m -> indexIsFine(mirrors.get(m).index(), last, a.bears))
            .filter(m -> packs.stream().allMatch(
                p -> named.get(p).equals(states.get(mirrors.get(m).index()).named().get(p))))
            .mapToInt(a.costs::get).min().getAsInt();
        for (int p : packs) {
            sum += honest.stream().filter(m -> mirrors.get(m).files.contains(named.get(p)))
                .mapToInt(a.costs::get).min().getAsInt();
        }
        return sum;
    }

    int asked(int what) {
        return asked == null || !in(what, 6) ? NONE : asked[what];
    }

    int got(int k, int what) {
        if (!in(k, got.size()) || !in(what, 3)) {
            return NONE;
        }
        Got one = got.get(k);
        return List.of(one.file(), one.pack(), one.mirror()).get(what);
    }

    int asker(int k, int what) {
        if (!in(k, 6) || !in(what, 3)) {
            return NONE;
        }
        Asker a = askers.get(k);
        return List.of(a.last, a.bears, a.bad.stream().mapToInt(m -> 1 << m).sum()).get(what);
    }

    int names(int state, int pack) {
        return in(state, states.size()) ? states.get(state).named().getOrDefault(pack, NONE) : NONE;
    }

    private int bytes(Set<Integer> files) {
        return files.stream().mapToInt(sizes::get).sum();
    }

    int state(int k, int what) {
        if (!in(k, states.size()) || !in(what, 4)) {
            return NONE;
        }
        State s = states.get(k);
        return List.of(s.tick(), age(k), s.named().size(), bytes(s.files())).get(what);
    }

    int about(int mirror, int what) {
        if (!in(mirror, mirrors.size()) || !in(what, 9)) {
            return NONE;
        }
        Mirror m = mirrors.get(mirror);
        int wants = m.target == NONE ? NONE : bytes(new TreeSet<>(wanted(m))) - m.done;
        return Arrays.asList(m.index(), m.target, m.files.size(), bytes(m.files), m.done, m.taken,
            fallen(mirror) ? 1 : 0, m.lies ? 1 : 0, wants).get(what);
    }

    int has(int mirror, int file) {
        if (!in(mirror, mirrors.size()) || !in(file, sizes.size())) {
            return NONE;
        }
        return mirrors.get(mirror).files.contains(file) ? 1 : 0;
    }

    int count(int what) {
        if (!in(what, 7)) {
            return NONE;
        }
        return List.of(now, sizes.size(), states.size(), mirrors.size(), falls.size(), grace, yanked.size()).get(what);
    }
}
