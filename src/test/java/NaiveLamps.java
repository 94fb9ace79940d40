import java.math.BigInteger;
import java.util.ArrayList;
import java.util.Arrays;
import java.util.List;

/** The document's terms word by word: every choice, every dim and every minute is gone through. */
final class NaiveLamps {
    final List<int[]> kinds = new ArrayList<>();
    final List<int[]> places = new ArrayList<>();
    final List<int[]> points = new ArrayList<>();
    final List<Integer> held = new ArrayList<>();
    final List<Integer> sensors = new ArrayList<>();
    final List<Integer> aims = new ArrayList<>();
    final List<Integer> daylights = new ArrayList<>();
    int height = 3;
    int step = 10;
    int minutes = 0;
    long used = 0;
    long paid = 0;
    long renewed = 0;
    int[] own = new int[7];
    int[] lasted = new int[7];
    private Best best;
    private Scene scene;

    /** One choice that is enough. */
    static final class Best {
        int[] lamps;
        long[] levels;
        int watts;
        BigInteger above;
        BigInteger below;
    }

    /** One scene. */
    static final class Scene {
        int[] dims = new int[7];
        int sweeps = 0;
    }

    void addKind(int strength, int watts, int life, int cents) {
        kinds.add(new int[] {strength, watts, life, cents});
        lampsGo();
    }

    void addPlace(int x, int y) {
        places.add(new int[] {x, y});
        held.add(LampChoice.NO);
        sensors.add(LampChoice.NONE);
        lampsGo();
    }

    void addPoint(int x, int y, int wanted) {
        points.add(new int[] {x, y, wanted});
        aims.add(0);
        daylights.add(0);
        lampsGo();
    }

    void lampsGo() {
        own = new int[7];
        lasted = new int[7];
        news();
    }

    /** What was worked out before is worked out again. */
    void news() {
        best = null;
        scene = null;
    }

    int light(int kind, int place, int point) {
        int dx = Math.abs(places.get(place)[0] - points.get(point)[0]);
        int dy = Math.abs(places.get(place)[1] - points.get(point)[1]);
        return 1000 * kinds.get(kind)[0] / (height * height + dx * dx + dy * dy);
    }

    /** null if no choice is enough. */
    Best best() {
        if (best == null) {
            best = searched();
        }
        return best.lamps == null ? null : best;
    }

    private Best searched() {
        int all = 1;
        for (int place = 0; place < places.size(); place++) {
            all *= kinds.size() + 1;
        }
        Best found = new Best();
        for (int number = 0; number < all; number++) {
            Best other = choice(number);
            if (other != null && (found.lamps == null || isBetter(other, found))) {
                found = other;
            }
        }
        return found;
    }

    private static boolean isBetter(Best one, Best other) {
        if (one.watts != other.watts) {
            return one.watts < other.watts;
        }
        return one.above.multiply(other.below).compareTo(other.above.multiply(one.below)) > 0;
    }

    /** The first place is the number's first digit, so numbers come as the document orders equals. */
    private Best choice(int number) {
        Best made = new Best();
        made.lamps = new int[places.size()];
        int rest = number;
        for (int place = places.size() - 1; place >= 0; place--) {
            made.lamps[place] = rest % (kinds.size() + 1) - 1;
            rest /= kinds.size() + 1;
            if (held.get(place) != LampChoice.NO && held.get(place) != made.lamps[place]) {
                return null;
            }
        }
        for (int kind : made.lamps) {
            made.watts += kind == LampChoice.NONE ? 0 : kinds.get(kind)[1];
        }
        made.levels = new long[points.size()];
        for (int point = 0; point < points.size(); point++) {
            for (int place = 0; place < places.size(); place++) {
                if (made.lamps[place] != LampChoice.NONE) {
                    made.levels[point] += light(made.lamps[place], place, point);
                }
            }
            if (made.levels[point] < points.get(point)[2]) {
                return null;
            }
        }
        setEvenness(made);
        return made;
    }

    private void setEvenness(Best made) {
        long sum = Arrays.stream(made.levels).sum();
        long least = Arrays.stream(made.levels).min().orElse(0);
        made.above = BigInteger.valueOf(least * points.size());
        made.below = BigInteger.valueOf(sum);
        if (sum == 0) {
            made.above = BigInteger.ZERO;
            made.below = BigInteger.ONE;
        }
        BigInteger common = made.above.gcd(made.below);
        made.above = made.above.divide(common);
        made.below = made.below.divide(common);
    }

    int lampAt(int place) {
        return best() == null ? LampChoice.NONE : best().lamps[place];
    }

    Scene scene() {
        if (scene == null) {
            scene = new Scene();
            int[] before = null;
            while (hasLamps() && scene.sweeps < 20 && !Arrays.equals(before, scene.dims)) {
                before = scene.dims.clone();
                sweep(scene.dims);
                scene.sweeps++;
            }
        }
        return scene;
    }

    private boolean hasLamps() {
        for (int place = 0; place < places.size(); place++) {
            if (lampAt(place) != LampChoice.NONE) {
                return true;
            }
        }
        return false;
    }

    private void sweep(int[] dims) {
        for (int place = 0; place < places.size(); place++) {
            if (lampAt(place) != LampChoice.NONE) {
                int bestDim = 0;
                BigInteger least = null;
                for (int dim = 0; dim <= 100; dim++) {
                    dims[place] = dim;
                    BigInteger squares = squares(dims);
                    if (least == null || squares.compareTo(least) < 0) {
                        least = squares;
                        bestDim = dim;
                    }
                }
                dims[place] = bestDim;
            }
        }
    }

    private BigInteger squares(int[] dims) {
        BigInteger sum = BigInteger.ZERO;
        for (int point = 0; point < points.size(); point++) {
            BigInteger miss = BigInteger.valueOf(miss(dims, point));
            sum = sum.add(miss.multiply(miss));
        }
        return sum;
    }

    long miss(int[] dims, int point) {
        long miss = 100L * aims.get(point);
        for (int place = 0; place < places.size(); place++) {
            if (lampAt(place) != LampChoice.NONE) {
                miss -= (long) light(lampAt(place), place, point) * dims[place];
            }
        }
        return miss;
    }

    void minute() {
        for (int place = 0; place < places.size(); place++) {
            int kind = lampAt(place);
            if (kind != LampChoice.NONE) {
                int need = need(place, kind);
                own[place] = need > own[place] ? Math.min(need, own[place] + step) : Math.max(need, own[place] - step);
                used += (long) own[place] * kinds.get(kind)[1];
                if (own[place] > 0) {
                    wear(place, kind);
                }
            }
        }
        minutes++;
    }

    private void wear(int place, int kind) {
        if (lasted[place] == 60 * kinds.get(kind)[2]) {
            lasted[place] = 0;
            paid += kinds.get(kind)[3];
            renewed++;
        }
        lasted[place]++;
    }

    private int need(int place, int kind) {
        int point = sensors.get(place);
        if (point == LampChoice.NONE) {
            return 100;
        }
        for (int level = 0; level <= 100; level++) {
            long there = daylights.get(point) + (long) light(kind, place, point) * level / 100;
            if (there >= points.get(point)[2]) {
                return level;
            }
        }
        return 100;
    }
}
