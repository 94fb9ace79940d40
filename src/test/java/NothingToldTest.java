/** Rooms in which some sort of thing was not told yet: no kind, no place, no point. */
final class NothingToldTest {
    private NothingToldTest() {
    }

    public static void main(String[] args) {
        nothing();
        kindsAlone();
        placesAlone();
        pointsAlone();
        pointsAloneThatWant();
        noPoints();
        noPlaces();
        noKinds();
        newPointsAreDark();
        newPlacesAreFree();
        Check.end("NothingToldTest");
    }

    private static void noSuchKind(String room, LampChoice x) {
        Check.argument(room + ": light of kind 0", () -> x.light(0, 0, 0));
        Check.argument(room + ": hold to kind 0", () -> Rooms.hold(x, 0, 0));
    }

    private static void noSuchPlace(String room, LampChoice x) {
        Check.argument(room + ": light at place 0", () -> x.light(0, 0, 0));
        Check.argument(room + ": hold place 0 to NONE", () -> Rooms.hold(x, 0, LampChoice.NONE));
        Check.argument(room + ": hold place 0 to nothing", () -> Rooms.hold(x, 0, LampChoice.NO));
        Check.argument(room + ": no sensor at place 0", () -> Rooms.sensor(x, 0, LampChoice.NONE));
        Check.argument(room + ": lamp(0)", () -> x.lamp(0));
        Check.argument(room + ": lamp(-1)", () -> x.lamp(-1));
        Check.argument(room + ": dim(0)", () -> x.dim(0));
        Check.argument(room + ": dim(-1)", () -> x.dim(-1));
        Check.argument(room + ": own(0, 0)", () -> x.own(0, 0));
        Check.argument(room + ": own(-1, 1)", () -> x.own(-1, 1));
    }

    private static void noSuchPoint(String room, LampChoice x) {
        Check.argument(room + ": light for point 0", () -> x.light(0, 0, 0));
        Check.argument(room + ": a sensor at point 0", () -> Rooms.sensor(x, 0, 0));
        Check.argument(room + ": level(0)", () -> x.level(0));
        Check.argument(room + ": level(-1)", () -> x.level(-1));
        Check.argument(room + ": aim(0, 0)", () -> x.aim(0, 0));
        Check.argument(room + ": aim(-1, 0)", () -> x.aim(-1, 0));
        Check.argument(room + ": miss(0)", () -> x.miss(0));
        Check.argument(room + ": miss(-1)", () -> x.miss(-1));
        Check.argument(room + ": daylight(0, 0)", () -> x.daylight(0, 0));
        Check.argument(room + ": daylight(-1, 0)", () -> x.daylight(-1, 0));
    }

    /** The choice that gives no place a kind is one, with 0 watts and the evenness 0 / 1. */
    private static void choiceOfNothing(String room, LampChoice x) {
        Check.due(room + ": best()", x.best(), 0);
        Check.due(room + ": even(0)", x.even(0), 0);
        Check.due(room + ": even(1)", x.even(1), 1);
        Check.due(room + ": scene()", x.scene(), 0);
    }

    private static void noChoice(String room, LampChoice x) {
        Check.due(room + ": best()", x.best(), LampChoice.NO);
        Check.due(room + ": even(0)", x.even(0), LampChoice.NO);
        Check.due(room + ": even(1)", x.even(1), LampChoice.NO);
        Check.due(room + ": scene()", x.scene(), 0);
    }

    private static void nothingIsUsed(String room, LampChoice x) {
        Check.due(room + ": run(1)", x.run(1), 1);
        Check.due(room + ": run(10000)", x.run(10000), 10001);
        for (int what = 0; what < 3; what++) {
            Check.due(room + ": used(" + what + ")", x.used(what), 0);
        }
    }

    /** "No kinds, places, points." */
    private static void nothing() {
        LampChoice x = new LampChoice();
        noSuchKind("nothing", x);
        noSuchPlace("nothing", x);
        noSuchPoint("nothing", x);
        choiceOfNothing("nothing", x);
        nothingIsUsed("nothing", x);
        Check.due("nothing: height", x.height(3), 3);
        Check.due("nothing: step", x.step(10), 10);
        Check.due("nothing: the first kind", x.kind(1, 1, 1, 0), 0);
        Check.due("nothing: the first place", x.place(0, 0), 0);
        Check.due("nothing: the first point", x.point(0, 0, 0), 0);
    }

    private static void kindsAlone() {
        LampChoice x = new LampChoice();
        x.kind(9, 5, 1, 3);
        noSuchPlace("kinds alone", x);
        noSuchPoint("kinds alone", x);
        choiceOfNothing("kinds alone", x);
        nothingIsUsed("kinds alone", x);
    }

    private static void placesAlone() {
        LampChoice x = new LampChoice();
        x.place(0, 0);
        noSuchKind("places alone", x);
        noSuchPoint("places alone", x);
        x.hold(0, LampChoice.NONE);
        x.hold(0, LampChoice.NO);
        x.sensor(0, LampChoice.NONE);
        choiceOfNothing("places alone", x);
        nothingIsUsed("places alone", x);
        Check.due("places alone: lamp(0)", x.lamp(0), LampChoice.NONE);
        Check.due("places alone: dim(0)", x.dim(0), LampChoice.NONE);
        Check.due("places alone: own(0, 0)", x.own(0, 0), LampChoice.NONE);
        Check.due("places alone: own(0, 1)", x.own(0, 1), LampChoice.NONE);
    }

    private static void pointsAlone() {
        LampChoice x = new LampChoice();
        x.point(0, 0, 0);
        noSuchKind("points alone", x);
        noSuchPlace("points alone", x);
        choiceOfNothing("points alone", x);
        nothingIsUsed("points alone", x);
        Check.due("points alone: level(0)", x.level(0), 0);
        Check.due("points alone: miss(0)", x.miss(0), 0);
        x.aim(0, 1000000);
        Check.due("points alone: the greatest miss", x.miss(0), 100000000);
    }

    private static void pointsAloneThatWant() {
        LampChoice x = new LampChoice();
        x.point(0, 0, 1);
        noSuchPlace("points that want", x);
        noChoice("points that want", x);
        nothingIsUsed("points that want", x);
        Check.due("points that want: level(0)", x.level(0), LampChoice.NO);
        x.aim(0, 3);
        Check.due("points that want: miss(0)", x.miss(0), 300);
    }

    /** "0 / 1 without points": lamps that are held stand there all the same. */
    private static void noPoints() {
        LampChoice x = new LampChoice();
        x.kind(9, 5, 1, 3);
        x.place(0, 0);
        noSuchPoint("no points", x);
        choiceOfNothing("no points", x);
        Check.due("no points: lamp(0)", x.lamp(0), LampChoice.NONE);
        x.hold(0, 0);
        Check.due("no points, held: best()", x.best(), 5);
        Check.due("no points, held: lamp(0)", x.lamp(0), 0);
        Check.due("no points, held: even(0)", x.even(0), 0);
        Check.due("no points, held: even(1)", x.even(1), 1);
        Check.due("no points, held: scene()", x.scene(), 1);
        Check.due("no points, held: dim(0)", x.dim(0), 0);
        x.run(2);
        Check.due("no points, held: own(0, 0)", x.own(0, 0), 20);
        Check.due("no points, held: used(0)", x.used(0), 30 * 5);
    }

    private static void noPlaces() {
        LampChoice x = new LampChoice();
        x.kind(10000, 5, 1, 3);
        x.point(0, 0, 0);
        noSuchPlace("no places", x);
        choiceOfNothing("no places", x);
        x.point(0, 0, 1);
        noChoice("no places, but wants", x);
        x.place(0, 0);
        Check.due("a place at last: best()", x.best(), 5);
    }

    private static void noKinds() {
        LampChoice x = new LampChoice();
        x.place(0, 0);
        x.point(0, 0, 0);
        noSuchKind("no kinds", x);
        choiceOfNothing("no kinds", x);
        x.sensor(0, 0);
        x.point(0, 0, 1);
        noChoice("no kinds, but wants", x);
        nothingIsUsed("no kinds, but wants", x);
        Check.due("no kinds, but wants: lamp(0)", x.lamp(0), LampChoice.NO);
        Check.due("no kinds, but wants: dim(0)", x.dim(0), LampChoice.NONE);
        Check.due("no kinds, but wants: own(0, 0)", x.own(0, 0), LampChoice.NONE);
        x.kind(10000, 5, 1, 3);
        Check.due("a kind at last: best()", x.best(), 5);
        Check.due("a kind at last: lamp(0)", x.lamp(0), 0);
    }

    /** A point that comes later knows nothing of the aims and the daylight before it. */
    private static void newPointsAreDark() {
        LampChoice x = new LampChoice();
        for (int point = 0; point < 16; point++) {
            x.point(0, 0, 0);
            Check.due("a new point's aim, " + point, x.aim(point, 5), 0);
            Check.due("a new point's daylight, " + point, x.daylight(point, 5), 0);
        }
    }

    /** "NO: to nothing (as at first)"; "100 without a sensor" */
    private static void newPlacesAreFree() {
        LampChoice x = new LampChoice();
        x.kind(9, 5, 1, 3);
        x.point(0, 0, 0);
        x.step(100);
        for (int place = 0; place < 7; place++) {
            x.place(0, 0);
            Check.due("a new place is not held, " + place, x.lamp(place), LampChoice.NONE);
            x.hold(place, 0);
            x.run(1);
            Check.due("a new place has no sensor, " + place, x.own(place, 0), 100);
            x.hold(place, LampChoice.NO);
            x.sensor(place, 0);
        }
    }
}
