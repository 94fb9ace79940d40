import java.util.Random;

/** Runs of calls, right and wrong ones, each answered as the document's words worked through plainly. */
final class RandomRunsTest {
    private final Random random;
    private final LampChoice lamps = new LampChoice();
    private final NaiveLamps naive = new NaiveLamps();
    private final int seed;
    private final int far;
    private final int strongest;
    private final int brightest;
    private final int mostPlaces;
    private final int longestRun;

    private RandomRunsTest(int seed) {
        this.seed = seed;
        random = new Random(seed);
        far = pick(3, 8, 50);
        strongest = pick(20, 300, 10000);
        brightest = pick(60, 3000, 100000);
        mostPlaces = seed % 40 == 0 ? 7 : pick(2, 3, 5);
        longestRun = pick(5, 90, 10000);
    }

    public static void main(String[] args) {
        for (int seed = 0; seed < 400; seed++) {
            RandomRunsTest test = new RandomRunsTest(seed);
            int calls = seed % 50 == 0 ? 512 : 150;
            for (int call = 0; call < calls; call++) {
                test.oneCall(call < 12 ? test.random.nextInt(4) : test.random.nextInt(20), call);
            }
        }
        Check.end("RandomRunsTest");
    }

    private int pick(int... numbers) {
        return numbers[random.nextInt(numbers.length)];
    }

    /** Mostly a number within the bounds, at times their ends, at times one outside. */
    private int number(int least, int usual, int most) {
        int way = random.nextInt(100);
        if (way < 3) {
            return pick(Check.outside(least, most));
        }
        if (way < 8) {
            return pick(least, most);
        }
        return least + random.nextInt(Math.max(1, Math.min(usual, most) - least + 1));
    }

    private static boolean in(int number, int least, int most) {
        return least <= number && number <= most;
    }

    private void oneCall(int which, int call) {
        switch (which) {
            case 0 -> oneKind(call);
            case 1 -> onePlace(call);
            case 2, 3 -> onePoint(call);
            case 4 -> oneHeight(call);
            case 5 -> oneHold(call);
            case 6 -> oneLight(call);
            case 7, 8 -> oneBest(call);
            case 9, 10 -> oneAim(call);
            case 11, 12 -> oneScene(call);
            case 13 -> oneSensor(call);
            case 14 -> oneDaylight(call);
            case 15 -> oneStep(call);
            case 16, 17 -> oneRun(call);
            default -> oneOwnOrUsed(call);
        }
    }

    private void compare(int call, String name, Check.Call got, String want, int... arguments) {
        StringBuilder text = new StringBuilder("seed " + seed + ", call " + call + ": " + name + "(");
        for (int argument : arguments) {
            text.append(' ').append(argument);
        }
        Check.dueText(text.append(" )").toString(), Check.outcome(got), want);
    }

    private static final String ARGUMENT = "throws.IllegalArgumentException";
    private static final String STATE = "throws.IllegalStateException";

    private void oneKind(int call) {
        int s = number(1, strongest, 10000);
        int w = number(1, 12, 500);
        int l = number(1, 3, 100000);
        int c = number(0, 50, 100000);
        String want = "" + naive.kinds.size();
        if (!in(s, 1, 10000) || !in(w, 1, 500) || !in(l, 1, 100000) || !in(c, 0, 100000)) {
            want = ARGUMENT;
        } else if (naive.kinds.size() == 3) {
            want = STATE;
        } else {
            naive.addKind(s, w, l, c);
        }
        compare(call, "kind", () -> lamps.kind(s, w, l, c), want, s, w, l, c);
    }

    private void onePlace(int call) {
        if (naive.places.size() == mostPlaces && mostPlaces < 7) {
            return;
        }
        int x = number(0, far, 50);
        int y = number(0, far, 50);
        String want = "" + naive.places.size();
        if (!in(x, 0, 50) || !in(y, 0, 50)) {
            want = ARGUMENT;
        } else if (naive.places.size() == 7) {
            want = STATE;
        } else {
            naive.addPlace(x, y);
        }
        compare(call, "place", () -> lamps.place(x, y), want, x, y);
    }

    private void onePoint(int call) {
        int x = number(0, far, 50);
        int y = number(0, far, 50);
        int w = random.nextInt(12) == 0 ? number(0, 100000, 100000) : number(0, brightest / 20, 100000);
        boolean full = naive.points.size() == 16;
        String want = "" + naive.points.size();
        if (!in(x, 0, 50) || !in(y, 0, 50) || !in(w, 0, 100000)) {
            want = ARGUMENT;
        } else if (full) {
            want = STATE;
        } else {
            naive.addPoint(x, y, w);
        }
        compare(call, "point", () -> lamps.point(x, y, w), want, x, y, w);
    }

    private void oneHeight(int call) {
        int h = number(1, 6, 50);
        String want = "" + naive.height;
        if (in(h, 1, 50)) {
            naive.height = h;
            naive.lampsGo();
        } else {
            want = ARGUMENT;
        }
        compare(call, "height", () -> lamps.height(h), want, h);
    }

    private int somePlace() {
        return number(0, 7, naive.places.size() - 1);
    }

    private int somePoint() {
        return number(0, 16, naive.points.size() - 1);
    }

    private boolean isPlace(int place) {
        return in(place, 0, naive.places.size() - 1);
    }

    private boolean isPoint(int point) {
        return in(point, 0, naive.points.size() - 1);
    }

    private void oneHold(int call) {
        int p = somePlace();
        int k = random.nextInt(3) == 0 ? LampChoice.NO : number(LampChoice.NO, 3, naive.kinds.size() - 1);
        String want = "0";
        if (isPlace(p) && in(k, LampChoice.NO, naive.kinds.size() - 1)) {
            naive.held.set(p, k);
            naive.lampsGo();
        } else {
            want = ARGUMENT;
        }
        compare(call, "hold", () -> {
            lamps.hold(p, k);
            return 0;
        }, want, p, k);
    }

    private void oneLight(int call) {
        int k = number(0, 3, naive.kinds.size() - 1);
        int p = somePlace();
        int q = somePoint();
        boolean right = in(k, 0, naive.kinds.size() - 1) && isPlace(p) && isPoint(q);
        compare(call, "light", () -> lamps.light(k, p, q), right ? "" + naive.light(k, p, q) : ARGUMENT, k, p, q);
    }

    private void oneBest(int call) {
        NaiveLamps.Best best = naive.best();
        int p = somePlace();
        int q = somePoint();
        int part = number(0, 1, 1);
        compare(call, "best", () -> lamps.best(), "" + (best == null ? -2 : best.watts));
        compare(call, "lamp", () -> lamps.lamp(p),
                !isPlace(p) ? ARGUMENT : "" + (best == null ? -2 : best.lamps[p]), p);
        compare(call, "level", () -> lamps.level(q),
                !isPoint(q) ? ARGUMENT : "" + (best == null ? -2 : best.levels[q]), q);
        String even = !in(part, 0, 1) ? ARGUMENT
                : best == null ? "-2" : part == 0 ? best.above.toString() : best.below.toString();
        compare(call, "even", () -> lamps.even(part), even, part);
    }

    private void oneAim(int call) {
        int q = somePoint();
        int level = number(0, brightest, 1000000);
        String want = ARGUMENT;
        if (isPoint(q) && in(level, 0, 1000000)) {
            want = "" + naive.aims.get(q);
            naive.aims.set(q, level);
            naive.news();
        }
        compare(call, "aim", () -> lamps.aim(q, level), want, q, level);
    }

    private void oneScene(int call) {
        NaiveLamps.Scene scene = naive.scene();
        int p = somePlace();
        int q = somePoint();
        compare(call, "scene", () -> lamps.scene(), "" + scene.sweeps);
        compare(call, "dim", () -> lamps.dim(p),
                !isPlace(p) ? ARGUMENT : "" + (naive.lampAt(p) == -1 ? -1 : scene.dims[p]), p);
        compare(call, "miss", () -> lamps.miss(q), !isPoint(q) ? ARGUMENT : "" + naive.miss(scene.dims, q), q);
    }

    private void oneSensor(int call) {
        int p = somePlace();
        int q = random.nextInt(4) == 0 ? LampChoice.NONE : somePoint();
        String want = "0";
        if (isPlace(p) && in(q, LampChoice.NONE, naive.points.size() - 1)) {
            naive.sensors.set(p, q);
            naive.lampsGo();
        } else {
            want = ARGUMENT;
        }
        compare(call, "sensor", () -> {
            lamps.sensor(p, q);
            return 0;
        }, want, p, q);
    }

    private void oneDaylight(int call) {
        int q = somePoint();
        int level = number(0, brightest / 30, 100000);
        String want = ARGUMENT;
        if (isPoint(q) && in(level, 0, 100000)) {
            want = "" + naive.daylights.get(q);
            naive.daylights.set(q, level);
        }
        compare(call, "daylight", () -> lamps.daylight(q, level), want, q, level);
    }

    private void oneStep(int call) {
        int s = number(1, 20, 100);
        String want = ARGUMENT;
        if (in(s, 1, 100)) {
            want = "" + naive.step;
            naive.step = s;
        }
        compare(call, "step", () -> lamps.step(s), want, s);
    }

    private void oneRun(int call) {
        int n = number(1, longestRun, 10000);
        String want = ARGUMENT;
        if (in(n, 1, 10000)) {
            want = STATE;
            if (naive.minutes + n <= 1000000) {
                for (int minute = 0; minute < n; minute++) {
                    naive.minute();
                }
                want = "" + naive.minutes;
            }
        }
        compare(call, "run", () -> lamps.run(n), want, n);
    }

    private void oneOwnOrUsed(int call) {
        int p = somePlace();
        int what = number(0, 1, 1);
        String own = ARGUMENT;
        if (isPlace(p) && in(what, 0, 1)) {
            own = "" + (naive.lampAt(p) == -1 ? -1 : what == 0 ? naive.own[p] : naive.lasted[p]);
        }
        compare(call, "own", () -> lamps.own(p, what), own, p, what);
        int sum = number(0, 2, 2);
        String used = !in(sum, 0, 2) ? ARGUMENT
                : "" + (sum == 0 ? naive.used : sum == 1 ? naive.paid : naive.renewed);
        compare(call, "used", () -> lamps.used(sum), used, sum);
    }
}
