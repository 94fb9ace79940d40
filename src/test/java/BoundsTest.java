/** The least and the greatest number that each call takes, the ones just outside, and what the ends of the bounds do. */
final class BoundsTest {
    private static final int KINDS = 2;
    private static final int PLACES = 5;
    private static final int POINTS = 9;

    private BoundsTest() {
    }

    public static void main(String[] args) {
        numbersOfKind();
        numbersOfPlace();
        numbersOfPoint();
        numbersOfHeightStepAndRun();
        numbersOfHold();
        numbersOfSensor();
        numbersOfLight();
        numbersOfAimAndDaylight();
        numbersOfQuestions();
        strengths();
        watts();
        lives();
        cents();
        corners();
        heights();
        wantedLevels();
        aims();
        daylights();
        steps();
        Check.end("BoundsTest");
    }

    /** A call with one number that may be within its bounds or outside. */
    private interface CallWith {
        long answer(LampChoice x, int number);
    }

    /** Each number gets a room of its own, so that no call stands in another's way. */
    private static void bounds(String name, int least, int most, CallWith call) {
        for (int right : new int[] {least, most}) {
            LampChoice x = Rooms.inUse(KINDS, PLACES, POINTS);
            String outcome = Check.outcome(() -> call.answer(x, right));
            Check.dueText(name + " " + right + " is allowed", "" + !outcome.startsWith("throws"), "true");
        }
        for (int wrong : Check.outside(least, most)) {
            LampChoice x = Rooms.inUse(KINDS, PLACES, POINTS);
            Check.argument(name + " " + wrong, () -> call.answer(x, wrong));
        }
    }

    /** "a STRENGTH (1 .. 10000), WATTS (1 .. 500), a LIFE (1 .. 100000 hours) and CENTS (0 .. 100000)" */
    private static void numbersOfKind() {
        bounds("kind: strength", 1, 10000, (x, n) -> x.kind(n, 5, 5, 5));
        bounds("kind: watts", 1, 500, (x, n) -> x.kind(5, n, 5, 5));
        bounds("kind: life", 1, 100000, (x, n) -> x.kind(5, 5, n, 5));
        bounds("kind: cents", 0, 100000, (x, n) -> x.kind(5, 5, 5, n));
    }

    /** "PLACES .. at (x, y), 0 .. 50 each" */
    private static void numbersOfPlace() {
        bounds("place: x", 0, 50, (x, n) -> x.place(n, 7));
        bounds("place: y", 0, 50, (x, n) -> x.place(7, n));
    }

    /** "POINTS .. at (x, y), 0 .. 50 each, with a WANTED level (0 .. 100000)" */
    private static void numbersOfPoint() {
        bounds("point: x", 0, 50, (x, n) -> x.point(n, 7, 7));
        bounds("point: y", 0, 50, (x, n) -> x.point(7, n, 7));
        bounds("point: wanted", 0, 100000, (x, n) -> x.point(7, 7, n));
    }

    /** "HEIGHT (1 .. 50", "STEP (1 .. 100", "n minutes (1 .. 10000)" */
    private static void numbersOfHeightStepAndRun() {
        bounds("height", 1, 50, LampChoice::height);
        bounds("step", 1, 100, LampChoice::step);
        bounds("run", 1, 10000, LampChoice::run);
    }

    /** "HELD to a kind, or to NONE; NO: to nothing" */
    private static void numbersOfHold() {
        bounds("hold: place", 0, PLACES - 1, (x, n) -> Rooms.hold(x, n, 0));
        bounds("hold: place, to NONE", 0, PLACES - 1, (x, n) -> Rooms.hold(x, n, LampChoice.NONE));
        bounds("hold: place, to nothing", 0, PLACES - 1, (x, n) -> Rooms.hold(x, n, LampChoice.NO));
        bounds("hold: kind", LampChoice.NO, KINDS - 1, (x, n) -> Rooms.hold(x, 0, n));
    }

    /** "A place's SENSOR, a point; NONE: none." NO is no such point. */
    private static void numbersOfSensor() {
        bounds("sensor: place", 0, PLACES - 1, (x, n) -> Rooms.sensor(x, n, 0));
        bounds("sensor: place, none", 0, PLACES - 1, (x, n) -> Rooms.sensor(x, n, LampChoice.NONE));
        bounds("sensor: point", LampChoice.NONE, POINTS - 1, (x, n) -> Rooms.sensor(x, 0, n));
    }

    /** "there is no such kind, place, point"; here NONE is no kind. */
    private static void numbersOfLight() {
        bounds("light: kind", 0, KINDS - 1, (x, n) -> x.light(n, 0, 0));
        bounds("light: place", 0, PLACES - 1, (x, n) -> x.light(0, n, 0));
        bounds("light: point", 0, POINTS - 1, (x, n) -> x.light(0, 0, n));
    }

    /** "an AIM (0 .. 1000000", "DAYLIGHT (0 .. 100000" */
    private static void numbersOfAimAndDaylight() {
        bounds("aim: point", 0, POINTS - 1, (x, n) -> x.aim(n, 7));
        bounds("aim: level", 0, 1000000, (x, n) -> x.aim(0, n));
        bounds("daylight: point", 0, POINTS - 1, (x, n) -> x.daylight(n, 7));
        bounds("daylight: level", 0, 100000, (x, n) -> x.daylight(0, n));
    }

    /** "above (part 0), below (1)", "(what = 0) .. (1)", "(what = 0 ..), (1), (2)" */
    private static void numbersOfQuestions() {
        bounds("lamp", 0, PLACES - 1, (x, n) -> x.lamp(n));
        bounds("level", 0, POINTS - 1, (x, n) -> x.level(n));
        bounds("even", 0, 1, (x, n) -> x.even(n));
        bounds("dim", 0, PLACES - 1, (x, n) -> x.dim(n));
        bounds("miss", 0, POINTS - 1, (x, n) -> x.miss(n));
        bounds("own: place, level", 0, PLACES - 1, (x, n) -> x.own(n, 0));
        bounds("own: place, minutes", 0, PLACES - 1, (x, n) -> x.own(n, 1));
        bounds("own: what", 0, 1, (x, n) -> x.own(0, n));
        bounds("own: what, without a lamp", 0, 1, (x, n) -> x.own(1, n));
        bounds("used", 0, 2, (x, n) -> x.used(n));
    }

    private static void strengths() {
        LampChoice x = new LampChoice();
        x.kind(1, 1, 1, 1);
        x.kind(10000, 1, 1, 1);
        x.place(0, 0);
        x.point(0, 0, 0);
        Check.due("the least strength", x.light(0, 0, 0), 111);
        Check.due("the greatest strength", x.light(1, 0, 0), 1111111);
    }

    private static void watts() {
        LampChoice x = new LampChoice();
        x.kind(1, 1, 1, 1);
        x.kind(1, 500, 1, 1);
        x.place(0, 0);
        x.hold(0, 0);
        Check.due("the fewest watts", x.best(), 1);
        x.step(1);
        x.run(1);
        Check.due("the fewest used in a minute of light", x.used(0), 1);
        x.hold(0, 1);
        Check.due("the most watts", x.best(), 500);
        x.step(100);
        x.run(1);
        Check.due("the most used in a minute by a lamp", x.used(0), 1 + 50000);
    }

    /** The longest life is 6000000 minutes, more than there may be. */
    private static void lives() {
        LampChoice x = new LampChoice();
        x.kind(1, 1, 1, 5);
        x.kind(1, 1, 100000, 5);
        x.place(0, 0);
        x.place(0, 0);
        x.hold(0, 0);
        x.hold(1, 1);
        for (int run = 0; run < 100; run++) {
            x.run(10000);
        }
        Check.due("the shortest life: made new", x.used(2), 16666);
        Check.due("the shortest life: minutes", x.own(0, 1), 40);
        Check.due("the longest life: minutes", x.own(1, 1), 1000000);
    }

    private static void cents() {
        LampChoice x = new LampChoice();
        x.kind(1, 1, 1, 0);
        x.kind(1, 1, 1, 100000);
        x.place(0, 0);
        x.hold(0, 0);
        x.run(61);
        Check.due("for no cents: made new", x.used(2), 1);
        Check.due("for no cents: paid", x.used(1), 0);
        x.hold(0, 1);
        x.run(61);
        Check.due("for the most cents: made new", x.used(2), 2);
        Check.due("for the most cents: paid", x.used(1), 100000);
    }

    private static void corners() {
        LampChoice x = new LampChoice();
        x.kind(10000, 1, 1, 1);
        x.place(0, 0);
        x.place(50, 0);
        x.place(0, 50);
        x.place(50, 50);
        x.point(0, 0, 0);
        x.point(50, 50, 0);
        Check.due("the same corner", x.light(0, 0, 0), 10000000 / 9);
        Check.due("along x", x.light(0, 1, 0), 10000000 / 2509);
        Check.due("along y", x.light(0, 2, 0), 10000000 / 2509);
        Check.due("along both", x.light(0, 3, 0), 10000000 / 5009);
        Check.due("back along both", x.light(0, 0, 1), 10000000 / 5009);
        Check.due("back along y", x.light(0, 1, 1), 10000000 / 2509);
        Check.due("the other corner", x.light(0, 3, 1), 10000000 / 9);
    }

    /** "HEIGHT (1 .. 50; 3 at first)" */
    private static void heights() {
        LampChoice x = new LampChoice();
        Check.due("3 at first", x.height(1), 3);
        x.kind(10000, 1, 1, 1);
        x.place(0, 0);
        x.point(0, 0, 0);
        x.point(50, 50, 0);
        Check.due("lowest and nearest", x.light(0, 0, 0), 10000000);
        Check.due("lowest and farthest", x.light(0, 0, 1), 10000000 / 5001);
        Check.due("the lowest was told", x.height(50), 1);
        Check.due("highest and nearest", x.light(0, 0, 0), 4000);
        Check.due("highest and farthest", x.light(0, 0, 1), 10000000 / 7500);
        Check.due("the highest was told", x.height(3), 50);
    }

    private static void wantedLevels() {
        LampChoice x = new LampChoice();
        x.kind(900, 8, 1, 1);
        x.place(0, 0);
        x.point(0, 0, 0);
        Check.due("the least that may be wanted", x.best(), 0);
        x.point(0, 0, 100000);
        Check.due("the most that may be wanted, just given", x.best(), 8);
        Check.due("its level", x.level(1), 100000);
        LampChoice y = new LampChoice();
        y.kind(899, 8, 1, 1);
        y.place(0, 0);
        y.point(0, 0, 100000);
        Check.due("the most that may be wanted, not quite given", y.best(), LampChoice.NO);
    }

    /** "an AIM (0 .. 1000000; 0 at first)" */
    private static void aims() {
        LampChoice x = Rooms.lampOf100(0);
        Check.due("0 at first: miss", x.miss(0), 0);
        Check.due("0 at first: aim", x.aim(0, 1000000), 0);
        Check.due("the greatest aim: miss", x.miss(0), 100000000 - 100 * 100);
        Check.due("the greatest aim: what it was", x.aim(0, 0), 1000000);
        Check.due("the least aim: miss", x.miss(0), 0);
        Check.due("the least aim: what it was", x.aim(0, 1), 0);
    }

    /** "DAYLIGHT (0 .. 100000; 0 at first)" */
    private static void daylights() {
        LampChoice x = Rooms.lampOf100(100);
        x.sensor(0, 0);
        x.step(100);
        x.run(1);
        Check.due("0 at first: need", x.own(0, 0), 100);
        Check.due("0 at first: daylight", x.daylight(0, 100000), 0);
        x.run(1);
        Check.due("the brightest day: need", x.own(0, 0), 0);
        Check.due("the brightest day: what it was", x.daylight(0, 0), 100000);
        x.run(1);
        Check.due("the darkest day: need", x.own(0, 0), 100);
    }

    /** "STEP (1 .. 100; 10 at first)" */
    private static void steps() {
        LampChoice x = Rooms.lampOf100(100);
        x.run(1);
        Check.due("10 at first: level", x.own(0, 0), 10);
        Check.due("10 at first: step", x.step(1), 10);
        x.run(1);
        Check.due("the least step: level", x.own(0, 0), 11);
        Check.due("the least step: what it was", x.step(100), 1);
        x.height(10);
        x.run(1);
        Check.due("the greatest step: level", x.own(0, 0), 100);
        Check.due("the greatest step: what it was", x.step(5), 100);
    }
}
