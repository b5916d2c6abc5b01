import java.util.Arrays;
import java.util.Random;

/** Many runs of 512 calls on MirrorNet and on PlainNet: every answer must be the same. */
public final class WildTest {
    private static final int RUNS = 3000;
    private static final int CALLS = 512;
    private static final int[] ODD = {-1, -2, Integer.MIN_VALUE, Integer.MAX_VALUE, 6, 8, 12, 60, 64, 10000};

    private static final Due DUE = new Due("WildTest");
    private static final int[] ASK_ANSWERS = new int[4];
    private static int dearer = 0;

    public static void main(String[] args) {
        for (int run = 0; run < RUNS; run++) {
            new Run(run).go();
        }
        System.out.println("asks that ended with 0, 1, 2, 3: " + Arrays.toString(ASK_ANSWERS)
            + ", dearer than foresight: " + dearer);
        // runs that never come to an ending, or never pay too much, would show nothing of it
        for (int answer = 0; answer < 3; answer++) {
            DUE.is("an ask that ends with " + answer + " is met often", ASK_ANSWERS[answer] > RUNS / 2, true);
        }
        // the mirror whose index was taken is honest, stands, and has all files of its index
        DUE.is("asks that end with 3", ASK_ANSWERS[3], 0);
        DUE.is("foresight matters", dearer > RUNS / 2, true);
        DUE.end();
    }

    private static final class Run {
        final int number;
        final Random random;
        final MirrorNet net = new MirrorNet();
        final PlainNet plain = new PlainNet();
        // runs differ in how big files, speeds and steps are, so that some lag and others follow at once
        final int mostSize;
        final int mostSpeed;
        final int mostPass;
        int calls = 0;

        Run(int number) {
            this.number = number;
            random = new Random(number);
            mostSize = pick(3, 30, 500);
            mostSpeed = pick(4, 60, 1000);
            mostPass = pick(2, 6, 30, 500);
        }

        int pick(int... from) {
            return from[random.nextInt(from.length)];
        }

        /** Mostly 0 to most - 1, at times something odd. */
        int upTo(int most) {
            return random.nextInt(40) == 0 ? ODD[random.nextInt(ODD.length)] : random.nextInt(Math.max(1, most));
        }

        int files() {
            return plain.count(1);
        }

        int mirrors() {
            return plain.count(3);
        }

        int mirror() {
            return upTo(mirrors());
        }

        /** Few askers mostly, so that each comes to reach several mirrors. */
        int asker() {
            return upTo(pick(2, 2, 2, 6));
        }

        void same(String name, int got, int want, int... args) {
            calls++;
            String told = got == want ? name : "run " + number + ", call " + calls + ": " + name + Arrays.toString(args);
            DUE.is(told, got, want);
        }

        void go() {
            for (int k = 0; k < 2; k++) {
                file();
                mirror(-1);
            }
            // an ask and the looks at what it came to are seven calls
            while (calls <= CALLS - 7) {
                if (random.nextInt(3) == 0) {
                    look();
                } else {
                    act();
                }
            }
        }

        void file() {
            int size = 1 + upTo(mostSize);
            same("file", net.file(size), plain.file(size), size);
        }

        void mirror(int from) {
            int speed = 1 + upTo(mostSpeed);
            int keep = upTo(4);
            same("mirror", net.mirror(from, speed, keep), plain.mirror(from, speed, keep), from, speed, keep);
        }

        void act() {
            switch (random.nextInt(24)) {
                case 0, 1 -> file();
                case 2, 3 -> {
                    int pack = upTo(pick(3, 12));
                    int f = upTo(files());
                    same("put", net.put(pack, f), plain.put(pack, f), pack, f);
                }
                case 4 -> {
                    int f = upTo(files());
                    if (random.nextInt(3) == 0) {
                        same("yank", net.yank(f), plain.yank(f), f);
                    } else {
                        same("put", net.put(0, f), plain.put(0, f), 0, f);
                    }
                }
                case 5 -> mirror(random.nextBoolean() ? -1 : mirror());
                case 6 -> fallOrSpeed();
                case 7 -> {
                    int m = mirror();
                    boolean is = random.nextInt(3) == 0;
                    same("lies", net.lies(m, is) ? 1 : 0, plain.lies(m, is) ? 1 : 0, m, is ? 1 : 0);
                }
                case 8, 9, 10, 11, 12, 13 -> {
                    int ticks = 1 + upTo(mostPass);
                    same("pass", net.pass(ticks), plain.pass(ticks), ticks);
                }
                case 14, 15, 16, 17 -> {
                    int a = asker();
                    int m = mirror();
                    int ticks = pick(-1, 0, upTo(4), upTo(4), upTo(10), upTo(101), upTo(102));
                    same("cost", net.cost(a, m, ticks), plain.cost(a, m, ticks), a, m, ticks);
                }
                case 18 -> patience();
                default -> ask();
            }
        }

        void fallOrSpeed() {
            int m = mirror();
            if (random.nextInt(3) == 0) {
                int speed = upTo(mostSpeed + 1);
                same("speed", net.speed(m, speed), plain.speed(m, speed), m, speed);
            } else {
                int from = plain.count(0) + pick(-1, 0, 0, 1, upTo(20), upTo(mostPass));
                int to = from + pick(-1, 0, 1, upTo(10), upTo(mostPass));
                same("fall", net.fall(m, from, to), plain.fall(m, from, to), m, from, to);
            }
        }

        void patience() {
            int a = asker();
            int ticks = pick(9999, upTo(10), upTo(100), upTo(10001));
            switch (random.nextInt(3)) {
                case 0 -> same("bears", net.bears(a, ticks), plain.bears(a, ticks), a, ticks);
                case 1 -> same("grace", net.grace(ticks), plain.grace(ticks), ticks);
                default -> same("forgives", net.forgives(a), plain.forgives(a), a);
            }
        }

        void ask() {
            int a = asker();
            int some = 1 << random.nextInt(3);
            int packages = pick(some, some, some | 1, 1 + random.nextInt(7), 1 + upTo(4097));
            int want = plain.ask(a, packages);
            same("ask", net.ask(a, packages), want, a, packages);
            for (int what = 0; what < 6; what++) {
                same("asked", net.asked(what), plain.asked(what), what);
            }
            if (want != -1) {
                ASK_ANSWERS[want]++;
                dearer += want == 0 && plain.asked(1) > plain.asked(5) ? 1 : 0;
            }
        }

        void look() {
            int state = upTo(plain.count(2));
            int m = mirror();
            int what = upTo(9);
            switch (random.nextInt(10)) {
                case 0 -> same("asked", net.asked(what), plain.asked(what), what);
                case 1 -> {
                    int k = upTo(4);
                    int part = upTo(4);
                    same("got", net.got(k, part), plain.got(k, part), k, part);
                }
                case 2 -> {
                    int a = upTo(7);
                    int part = upTo(4);
                    same("asker", net.asker(a, part), plain.asker(a, part), a, part);
                }
                case 3 -> {
                    int pack = upTo(13);
                    same("names", net.names(state, pack), plain.names(state, pack), state, pack);
                }
                case 4 -> same("state", net.state(state, what), plain.state(state, what), state, what);
                case 5 -> {
                    int f = upTo(files());
                    same("has", net.has(m, f), plain.has(m, f), m, f);
                }
                case 6 -> same("count", net.count(what), plain.count(what), what);
                default -> same("about", net.about(m, what), plain.about(m, what), m, what);
            }
        }
    }
}
