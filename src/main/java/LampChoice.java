import java.util.Arrays;

/** The lamps of a room: the best choice of them, their scenes, and their days. */
public final class LampChoice {
    public static final int NONE = -1;
    public static final int NO = -2;

    private static final int MOST_KINDS = 3;
    private static final int MOST_PLACES = 7;
    private static final int MOST_POINTS = 16;
    private static final int MOST_STRENGTH = 10000;
    private static final int MOST_WATTS = 500;
    private static final int MOST_LIFE = 100000;
    private static final int MOST_CENTS = 100000;
    private static final int FARTHEST = 50;
    private static final int MOST_HEIGHT = 50;
    private static final int FIRST_HEIGHT = 3;
    private static final int MOST_WANTED = 100000;
    private static final int MOST_AIM = 1000000;
    private static final int MOST_DAYLIGHT = 100000;
    private static final int FULL = 100;
    private static final int FIRST_STEP = 10;
    private static final int MOST_SWEEPS = 20;
    private static final int MOST_MINUTES_A_RUN = 10000;
    private static final int MOST_MINUTES = 1000000;
    private static final int MINUTES_AN_HOUR = 60;

    private final Room room;
    private final Choice choice;
    private final Scenes scenes;
    private final Days days;

    public LampChoice() {
        Room emptyRoom = new Room();
        Choice firstChoice = new Choice(emptyRoom);
        room = emptyRoom;
        choice = firstChoice;
        scenes = new Scenes(emptyRoom, firstChoice);
        days = new Days(emptyRoom, firstChoice);
    }

    public int kind(int strength, int watts, int life, int cents)
            throws IllegalArgumentException, IllegalStateException {
        checkBounds(strength, 1, MOST_STRENGTH);
        checkBounds(watts, 1, MOST_WATTS);
        checkBounds(life, 1, MOST_LIFE);
        checkBounds(cents, 0, MOST_CENTS);
        checkCount(room.kinds, MOST_KINDS);
        int number = room.addKind(strength, watts, life, cents);
        lampsGo();
        return number;
    }

    public int place(int x, int y) throws IllegalArgumentException, IllegalStateException {
        checkBounds(x, 0, FARTHEST);
        checkBounds(y, 0, FARTHEST);
        checkCount(room.places, MOST_PLACES);
        int number = room.addPlace(x, y);
        lampsGo();
        return number;
    }

    public int point(int x, int y, int wanted) throws IllegalArgumentException, IllegalStateException {
        checkBounds(x, 0, FARTHEST);
        checkBounds(y, 0, FARTHEST);
        checkBounds(wanted, 0, MOST_WANTED);
        checkCount(room.points, MOST_POINTS);
        int number = room.addPoint(x, y, wanted);
        lampsGo();
        return number;
    }

    public int height(int h) throws IllegalArgumentException {
        checkBounds(h, 1, MOST_HEIGHT);
        int before = room.height;
        room.height = h;
        lampsGo();
        return before;
    }

    public void hold(int place, int kind) throws IllegalArgumentException {
        checkPlace(place);
        checkBounds(kind, NO, room.kinds - 1);
        room.held[place] = kind;
        lampsGo();
    }

    public int light(int kind, int place, int point) throws IllegalArgumentException {
        checkBounds(kind, 0, room.kinds - 1);
        checkPlace(place);
        checkPoint(point);
        return room.lightOf(kind, place, point);
    }

    // ---- the best choice

    public int best() {
        choice.settle();
        return choice.found ? choice.watts : NO;
    }

    public int lamp(int place) throws IllegalArgumentException {
        checkPlace(place);
        choice.settle();
        return choice.found ? choice.lamps[place] : NO;
    }

    public int level(int point) throws IllegalArgumentException {
        checkPoint(point);
        choice.settle();
        return choice.found ? choice.levels[point] : NO;
    }

    public long even(int part) throws IllegalArgumentException {
        checkBounds(part, 0, 1);
        choice.settle();
        if (!choice.found) {
            return NO;
        }
        return part == 0 ? choice.evennessAbove() : choice.evennessBelow();
    }

    // ---- scenes

    public int aim(int point, int level) throws IllegalArgumentException {
        checkPoint(point);
        checkBounds(level, 0, MOST_AIM);
        return scenes.changeAim(point, level);
    }

    public int scene() {
        settleScene();
        return scenes.sweeps;
    }

    public int dim(int place) throws IllegalArgumentException {
        checkPlace(place);
        settleScene();
        return choice.lamps[place] == NONE ? NONE : scenes.dims[place];
    }

    public long miss(int point) throws IllegalArgumentException {
        checkPoint(point);
        settleScene();
        return scenes.misses[point];
    }

    // ---- days

    public void sensor(int place, int point) throws IllegalArgumentException {
        checkPlace(place);
        checkBounds(point, NONE, room.points - 1);
        days.sensors[place] = point;
        lampsGo();
    }

    public int daylight(int point, int level) throws IllegalArgumentException {
        checkPoint(point);
        checkBounds(level, 0, MOST_DAYLIGHT);
        int before = days.daylights[point];
        days.daylights[point] = level;
        return before;
    }

    public int step(int most) throws IllegalArgumentException {
        checkBounds(most, 1, FULL);
        int before = days.farthestStep;
        days.farthestStep = most;
        return before;
    }

    public int run(int n) throws IllegalArgumentException, IllegalStateException {
        checkBounds(n, 1, MOST_MINUTES_A_RUN);
        if (days.minutes > MOST_MINUTES - n) {
            throw new IllegalStateException("there would be too many minutes");
        }
        choice.settle();
        days.pass(n);
        return days.minutes;
    }

    public int own(int place, int what) throws IllegalArgumentException {
        checkPlace(place);
        checkBounds(what, 0, 1);
        choice.settle();
        if (choice.lamps[place] == NONE) {
            return NONE;
        }
        return what == 0 ? days.ownLevels[place] : days.lasted[place];
    }

    public long used(int what) throws IllegalArgumentException {
        checkBounds(what, 0, 2);
        if (what == 0) {
            return days.wattMinutes;
        }
        return what == 1 ? days.paid : days.renewed;
    }

    private void checkPlace(int number) {
        checkBounds(number, 0, room.places - 1);
    }

    private void checkPoint(int number) {
        checkBounds(number, 0, room.points - 1);
    }

    private static void checkBounds(int number, int least, int most) {
        if (number < least || number > most) {
            throw new IllegalArgumentException("a number is out of its bounds, or there is no such thing");
        }
    }

    private static void checkCount(int count, int most) {
        if (count >= most) {
            throw new IllegalStateException("there are as many as there may be");
        }
    }

    /** Levels of their own are lost at once; the choice and the scene wait until somebody asks. */
    private void lampsGo() {
        choice.known = false;
        scenes.known = false;
        days.startAnew();
    }

    private void settleScene() {
        choice.settle();
        scenes.settle();
    }

    /** No divisor goes untested, also where the document's bounds keep it above 0 already. */
    private static long quotient(long above, long below) {
        return below > 0 ? above / below : 0;
    }

    /** Kinds, places and points as they were told. */
    private static final class Room {
        final int[] strengths = new int[MOST_KINDS];
        final int[] watts = new int[MOST_KINDS];
        final int[] lives = new int[MOST_KINDS];
        final int[] cents = new int[MOST_KINDS];
        final int[] placeX = new int[MOST_PLACES];
        final int[] placeY = new int[MOST_PLACES];
        final int[] held = new int[MOST_PLACES];
        final int[] pointX = new int[MOST_POINTS];
        final int[] pointY = new int[MOST_POINTS];
        final int[] wanted = new int[MOST_POINTS];
        int kinds;
        int places;
        int points;
        int height = FIRST_HEIGHT;

        Room() {
            for (int place = 0; place < MOST_PLACES; place++) {
                held[place] = NO;
            }
        }

        int addKind(int strength, int power, int life, int price) {
            int number = kinds;
            strengths[number] = strength;
            watts[number] = power;
            lives[number] = life;
            cents[number] = price;
            kinds++;
            return number;
        }

        int addPlace(int x, int y) {
            int number = places;
            placeX[number] = x;
            placeY[number] = y;
            places++;
            return number;
        }

        int addPoint(int x, int y, int least) {
            int number = points;
            pointX[number] = x;
            pointY[number] = y;
            wanted[number] = least;
            points++;
            return number;
        }

        boolean mayHave(int place, int kind) {
            return held[place] == NO || held[place] == kind;
        }

        int wattsOf(int kind) {
            return kind >= 0 ? watts[kind] : 0;
        }

        int lightOf(int kind, int place, int point) {
            int dx = placeX[place] - pointX[point];
            int dy = placeY[place] - pointY[point];
            return (int) quotient(1000L * strengths[kind], height * height + dx * dx + dy * dy);
        }
    }

    /** The best choice, found by trying kinds place by place, lesser kinds first. */
    private static final class Choice {
        private final Room room;
        private final int[] lights = new int[MOST_PLACES * MOST_KINDS * MOST_POINTS];
        /** By place and point: the most light that this place and all behind it can give. */
        private final int[] reach = new int[(MOST_PLACES + 1) * MOST_POINTS];
        /** By place and point: the light of the tried lamps at the places before this one. */
        private final int[] gathered = new int[(MOST_PLACES + 1) * MOST_POINTS];
        private final int[] tried = new int[MOST_PLACES];
        private long leastLevel;
        private long sumOfLevels;
        /** NONE everywhere if no choice is enough. */
        final int[] lamps = new int[MOST_PLACES];
        final int[] levels = new int[MOST_POINTS];
        int watts;
        boolean found;
        boolean known;

        Choice(Room room) {
            this.room = room;
        }

        void settle() {
            if (known) {
                return;
            }
            known = true;
            found = false;
            Arrays.fill(lamps, NONE);
            fillLights();
            fillReach();
            if (canBecomeEnough(0)) {
                tryFrom(0, 0);
            }
        }

        /** The light of the lamp that stands at a place. */
        int lampLight(int place, int point) {
            int kind = lamps[place];
            return kind >= 0 ? lights[lightRow(place, kind) + point] : 0;
        }

        boolean hasLamps() {
            for (int place = 0; place < room.places; place++) {
                if (lamps[place] != NONE) {
                    return true;
                }
            }
            return false;
        }

        long evennessAbove() {
            long above = leastLevel * room.points;
            return quotient(above, commonDivisor(above, sumOfLevels));
        }

        long evennessBelow() {
            return quotient(sumOfLevels, commonDivisor(leastLevel * room.points, sumOfLevels));
        }

        private static long commonDivisor(long one, long other) {
            long a = one;
            long b = other;
            // Two numbers of 63 bits take fewer than 100 rounds.
            for (int round = 0; round < 100 && b > 0; round++) {
                long rest = a % b;
                a = b;
                b = rest;
            }
            return a;
        }

        private static int lightRow(int place, int kind) {
            return (place * MOST_KINDS + kind) * MOST_POINTS;
        }

        private void fillLights() {
            for (int place = 0; place < room.places; place++) {
                for (int kind = 0; kind < room.kinds; kind++) {
                    int row = lightRow(place, kind);
                    for (int point = 0; point < room.points; point++) {
                        lights[row + point] = room.lightOf(kind, place, point);
                    }
                }
            }
        }

        /** Behind the last place nothing was ever written, so nothing can be reached there. */
        private void fillReach() {
            for (int place = room.places - 1; place >= 0; place--) {
                for (int point = 0; point < room.points; point++) {
                    int at = place * MOST_POINTS + point;
                    reach[at] = reach[at + MOST_POINTS] + mostLight(place, point);
                }
            }
        }

        private int mostLight(int place, int point) {
            int most = 0;
            for (int kind = 0; kind < room.kinds; kind++) {
                if (room.mayHave(place, kind)) {
                    most = Math.max(most, lights[lightRow(place, kind) + point]);
                }
            }
            return most;
        }

        /** Choices come in the order in which equals are preferred, so the first of equals stays. */
        private void tryFrom(int place, int wattsBefore) {
            if (place >= room.places) {
                weigh(wattsBefore);
                return;
            }
            for (int kind = NONE; kind < room.kinds; kind++) {
                int wattsNow = wattsBefore + room.wattsOf(kind);
                if (room.mayHave(place, kind) && (!found || wattsNow <= watts)) {
                    tried[place] = kind;
                    gather(place, kind);
                    if (canBecomeEnough(place + 1)) {
                        tryFrom(place + 1, wattsNow);
                    }
                }
            }
        }

        private void gather(int place, int kind) {
            int from = place * MOST_POINTS;
            int to = from + MOST_POINTS;
            if (kind < 0) {
                System.arraycopy(gathered, from, gathered, to, room.points);
                return;
            }
            int row = lightRow(place, kind);
            for (int point = 0; point < room.points; point++) {
                gathered[to + point] = gathered[from + point] + lights[row + point];
            }
        }

        private boolean canBecomeEnough(int place) {
            int row = place * MOST_POINTS;
            for (int point = 0; point < room.points; point++) {
                if (gathered[row + point] + reach[row + point] < room.wanted[point]) {
                    return false;
                }
            }
            return true;
        }

        private void weigh(int wattsTogether) {
            int row = room.places * MOST_POINTS;
            long least = room.points > 0 ? gathered[row] : 0;
            long sum = 0;
            for (int point = 0; point < room.points; point++) {
                least = Math.min(least, gathered[row + point]);
                sum += gathered[row + point];
            }
            // In the dark evenness is 0 / 1.
            sum = Math.max(sum, 1);
            if (!found || wattsTogether < watts
                    || (wattsTogether == watts && least * sumOfLevels > leastLevel * sum)) {
                found = true;
                watts = wattsTogether;
                leastLevel = least;
                sumOfLevels = sum;
                System.arraycopy(tried, 0, lamps, 0, room.places);
                System.arraycopy(gathered, row, levels, 0, room.points);
            }
        }
    }

    /** The scene of the lamps that stand there. */
    private static final class Scenes {
        private final Room room;
        private final Choice choice;
        private final int[] aims = new int[MOST_POINTS];
        final int[] dims = new int[MOST_PLACES];
        final long[] misses = new long[MOST_POINTS];
        int sweeps;
        boolean known;

        Scenes(Room room, Choice choice) {
            this.room = room;
            this.choice = choice;
        }

        int changeAim(int point, int level) {
            int before = aims[point];
            aims[point] = level;
            known = false;
            return before;
        }

        void settle() {
            if (known) {
                return;
            }
            known = true;
            Arrays.fill(dims, 0);
            for (int point = 0; point < room.points; point++) {
                misses[point] = (long) FULL * aims[point];
            }
            sweeps = 0;
            boolean changes = choice.hasLamps();
            while (changes && sweeps < MOST_SWEEPS) {
                changes = sweep();
                sweeps++;
            }
        }

        private boolean sweep() {
            boolean changes = false;
            for (int place = 0; place < room.places; place++) {
                int dim = choice.lamps[place] == NONE ? dims[place] : fittingDim(place);
                if (dim != dims[place]) {
                    moveTo(place, dim);
                    changes = true;
                }
            }
            return changes;
        }

        /**
         * The squares themselves would not fit into a long. From dim d to d + 1 their sum grows by
         * (2 d + 1) times the lights' squares less twice the lights times the misses at dim 0: the least
         * dim from which it does not fall is the one.
         */
        private int fittingDim(int place) {
            long squares = 0;
            long products = 0;
            for (int point = 0; point < room.points; point++) {
                long light = choice.lampLight(place, point);
                squares += light * light;
                products += light * (misses[point] + light * dims[place]);
            }
            long over = 2 * products - squares;
            if (over <= 0) {
                return 0;
            }
            return (int) Math.min(FULL, quotient(over + 2 * squares - 1, 2 * squares));
        }

        private void moveTo(int place, int dim) {
            long change = dim - dims[place];
            for (int point = 0; point < room.points; point++) {
                misses[point] -= change * choice.lampLight(place, point);
            }
            dims[place] = dim;
        }
    }

    /** Lamps that follow the daylight, minute by minute. */
    private static final class Days {
        private final Room room;
        private final Choice choice;
        final int[] sensors = new int[MOST_PLACES];
        final int[] daylights = new int[MOST_POINTS];
        final int[] ownLevels = new int[MOST_PLACES];
        final int[] lasted = new int[MOST_PLACES];
        int farthestStep = FIRST_STEP;
        int minutes;
        long wattMinutes;
        long paid;
        long renewed;

        Days(Room room, Choice choice) {
            this.room = room;
            this.choice = choice;
            for (int place = 0; place < MOST_PLACES; place++) {
                sensors[place] = NONE;
            }
        }

        void startAnew() {
            Arrays.fill(ownLevels, 0);
            Arrays.fill(lasted, 0);
        }

        /** No lamp looks at another one, so each can do all its minutes before the next lamp's. */
        void pass(int count) {
            for (int place = 0; place < room.places; place++) {
                if (choice.lamps[place] != NONE) {
                    follow(place, count);
                }
            }
            minutes += count;
        }

        /** While time passes no need changes: a lamp that is there does the minutes left at once. */
        private void follow(int place, int count) {
            int need = needOf(place);
            int left = count;
            while (left > 0 && ownLevels[place] != need) {
                ownLevels[place] = stepTowards(ownLevels[place], need);
                shine(place, 1);
                left--;
            }
            shine(place, left);
        }

        private int stepTowards(int level, int need) {
            return Math.max(level - farthestStep, Math.min(level + farthestStep, need));
        }

        private int needOf(int place) {
            int point = sensors[place];
            if (point < 0) {
                return FULL;
            }
            int lack = room.wanted[point] - daylights[point];
            if (lack <= 0) {
                return 0;
            }
            long light = choice.lampLight(place, point);
            if (light == 0) {
                return FULL;
            }
            return (int) Math.min(FULL, quotient((long) FULL * lack + light - 1, light));
        }

        /** A burnt lamp is made new only before a minute of light, so a full life stays until then. */
        private void shine(int place, int count) {
            int kind = choice.lamps[place];
            if (kind < 0 || count <= 0 || ownLevels[place] == 0) {
                return;
            }
            wattMinutes += (long) count * ownLevels[place] * room.watts[kind];
            int life = MINUTES_AN_HOUR * room.lives[kind];
            int together = lasted[place] + count;
            int times = (int) quotient(together - 1, life);
            lasted[place] = together - times * life;
            renewed += times;
            paid += (long) times * room.cents[kind];
        }
    }
}
