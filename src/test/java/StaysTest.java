/**
 * "all lamps go: levels and what they have lasted are 0 again .. (what was used and paid stays)": what goes
 * with the lamps, and what is of a place, a point or the room and stays.
 */
final class StaysTest {
    private static final int AIM = 25;
    private static final int DAYLIGHT = 40;
    private static final int STEP = 25;

    private StaysTest() {
    }

    public static void main(String[] args) {
        afterEachNews();
        sensorsOfOtherLamps();
        sensorsWhileThereAreNoLamps();
        sensorsOfPlacesWithoutLamps();
        sensorsUntilToldOtherwise();
        whatIsToldBeforeAnyLamp();
        Check.end("StaysTest");
    }

    /** One of the calls after which all lamps go. */
    private interface News {
        void tell(LampChoice x);
    }

    /**
     * Two lamps of light 100 for the one point, which wants 100: 60 is the first one's need by its sensor, 100
     * the second one's, which has none.
     */
    private static LampChoice twoLamps() {
        LampChoice x = Rooms.lampOf100(100);
        x.place(20, 20);
        x.hold(1, 0);
        x.sensor(0, 0);
        x.aim(0, AIM);
        x.daylight(0, DAYLIGHT);
        x.step(STEP);
        return x;
    }

    private static void afterEachNews() {
        staysWith("a kind", x -> x.kind(1, 500, 1, 0));
        staysWith("a place", x -> x.place(0, 0));
        staysWith("a point", x -> x.point(20, 20, 0));
        staysWith("the height that it has", x -> x.height(10));
        staysWith("what is held already", x -> x.hold(1, 0));
        staysWith("the sensor that it has", x -> x.sensor(0, 0));
        staysWith("that the other one has no sensor", x -> x.sensor(1, LampChoice.NONE));
    }

    private static void staysWith(String name, News news) {
        LampChoice x = twoLamps();
        x.run(70);
        long used = x.used(0);
        Check.due(name + ", before: own(0, 0)", x.own(0, 0), 60);
        Check.due(name + ", before: own(1, 0)", x.own(1, 0), 100);
        Check.due(name + ", before: used(2)", x.used(2), 2);
        news.tell(x);
        for (int place = 0; place < 2; place++) {
            Check.due(name + ": what is held stays, lamp(" + place + ")", x.lamp(place), 0);
            Check.due(name + ": own(" + place + ", 0)", x.own(place, 0), 0);
            Check.due(name + ": own(" + place + ", 1)", x.own(place, 1), 0);
        }
        Check.due(name + ": used(0)", x.used(0), used);
        Check.due(name + ": used(1)", x.used(1), 26);
        Check.due(name + ": used(2)", x.used(2), 2);
        int[][] levels = {{25, 25}, {50, 50}, {60, 75}, {60, 100}, {60, 100}};
        for (int minute = 0; minute < levels.length; minute++) {
            Check.due(name + ": minutes go on", x.run(1), 71 + minute);
            Check.due(name + ": its sensor stays, minute " + minute, x.own(0, 0), levels[minute][0]);
            Check.due(name + ": still without a sensor, minute " + minute, x.own(1, 0), levels[minute][1]);
        }
        Check.due(name + ": the aim stays", x.aim(0, 0), AIM);
        Check.due(name + ": the daylight stays", x.daylight(0, 0), DAYLIGHT);
        Check.due(name + ": the step stays", x.step(1), STEP);
        Check.due(name + ": the height stays", x.height(1), 10);
    }

    /** Another kind at the place, or another height: the sensor is the same, what it asks for is not. */
    private static void sensorsOfOtherLamps() {
        LampChoice x = twoLamps();
        x.run(70);
        x.kind(20, 9, 1, 0);
        x.hold(0, 1);
        x.run(10);
        Check.due("light 200, 60 lack: own(0, 0)", x.own(0, 0), 30);
        x.height(20);
        x.run(10);
        Check.due("light 50, 60 lack: no level is enough", x.best(), LampChoice.NO);
        x.height(5);
        x.run(10);
        Check.due("light 800, 60 lack: own(0, 0)", x.own(0, 0), 8);
        Check.due("still without a sensor: own(1, 0)", x.own(1, 0), 100);
    }

    private static void sensorsWhileThereAreNoLamps() {
        LampChoice x = twoLamps();
        x.hold(0, LampChoice.NONE);
        x.hold(1, LampChoice.NONE);
        x.run(10);
        Check.due("no choice: best()", x.best(), LampChoice.NO);
        Check.due("no choice: own(0, 0)", x.own(0, 0), LampChoice.NONE);
        x.hold(0, 0);
        x.hold(1, 0);
        x.run(10);
        Check.due("lamps again: own(0, 0)", x.own(0, 0), 60);
        Check.due("lamps again: own(1, 0)", x.own(1, 0), 100);
    }

    /** "A place may have a SENSOR": also a place without a lamp */
    private static void sensorsOfPlacesWithoutLamps() {
        LampChoice x = twoLamps();
        x.place(20, 20);
        Check.due("no lamp there: lamp(2)", x.lamp(2), LampChoice.NONE);
        x.sensor(2, 0);
        x.daylight(0, 99);
        x.run(1);
        Check.due("no lamp there: own(2, 0)", x.own(2, 0), LampChoice.NONE);
        x.hold(2, 0);
        x.run(10);
        Check.due("a lamp there: own(2, 0)", x.own(2, 0), 1);
    }

    private static void sensorsUntilToldOtherwise() {
        LampChoice x = twoLamps();
        x.point(20, 20, 30);
        x.run(10);
        Check.due("the first point: own(0, 0)", x.own(0, 0), 60);
        x.sensor(0, 1);
        x.run(10);
        Check.due("another point: own(0, 0)", x.own(0, 0), 30);
        x.height(10);
        x.run(10);
        Check.due("another point, after news: own(0, 0)", x.own(0, 0), 30);
        x.sensor(0, LampChoice.NONE);
        x.run(10);
        Check.due("none: own(0, 0)", x.own(0, 0), 100);
        x.height(10);
        x.run(10);
        Check.due("none, after news: own(0, 0)", x.own(0, 0), 100);
    }

    /** Aim, daylight, step and sensor may be told before there is a kind. */
    private static void whatIsToldBeforeAnyLamp() {
        LampChoice x = new LampChoice();
        x.height(10);
        x.point(20, 20, 100);
        x.aim(0, AIM);
        x.daylight(0, DAYLIGHT);
        x.step(STEP);
        x.place(20, 20);
        x.sensor(0, 0);
        x.run(10);
        x.kind(10, 7, 1, 13);
        Check.due("the first kind: lamp(0)", x.lamp(0), 0);
        Check.due("the first kind: dim(0)", x.dim(0), AIM);
        x.run(1);
        Check.due("the first kind: one step", x.own(0, 0), STEP);
        x.run(9);
        Check.due("the first kind: its need", x.own(0, 0), 60);
        Check.due("the first kind: own(0, 1)", x.own(0, 1), 10);
    }
}
