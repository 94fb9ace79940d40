/** "Of several exceptions the one named first is thrown; a call that throws changes nothing." */
final class RefusedTest {
    private static final String ARGUMENT = "throws.IllegalArgumentException";
    private static final String STATE = "throws.IllegalStateException";
    /** Rooms by how many kinds, places and points they have: some, and as many as there may be. */
    private static final int[][] SOME_AND_ALL = {{2, 5, 9}, {3, 7, 16}};
    private static final int[][] ALL = {{3, 7, 16}};

    private RefusedTest() {
    }

    public static void main(String[] args) {
        wrongKinds();
        wrongPlacesAndPoints();
        wrongHeightsStepsAndRuns();
        wrongHoldsAndSensors();
        wrongAimsAndDaylights();
        wrongQuestions();
        oneTooMany();
        argumentBeforeState();
        minutesThatWouldBeTooMany();
        refusedBeforeAnyQuestion();
        Check.end("RefusedTest");
    }

    /** A refused call in a room that has as many kinds, places and points as size tells. */
    private interface Refused {
        long call(LampChoice x, int[] size);
    }

    /** Of two rooms alike one is called wrongly; then they must still be alike. */
    private static void leavesAll(String name, String exception, int[][] sizes, Refused refused) {
        for (int[] size : sizes) {
            LampChoice x = Rooms.inUse(size[0], size[1], size[2]);
            LampChoice twin = Rooms.inUse(size[0], size[1], size[2]);
            Check.dueText(name, Check.outcome(() -> refused.call(x, size)), exception);
            Check.dueText(name + " leaves all as it was", Rooms.report(x, size[1], size[2]),
                    Rooms.report(twin, size[1], size[2]));
        }
    }

    private static void wrong(String name, Refused refused) {
        leavesAll(name, ARGUMENT, SOME_AND_ALL, refused);
    }

    private static void wrongKinds() {
        wrong("kind(0, 1, 1, 1)", (x, size) -> x.kind(0, 1, 1, 1));
        wrong("kind(10001, 1, 1, 1)", (x, size) -> x.kind(10001, 1, 1, 1));
        wrong("kind(1, 0, 1, 1)", (x, size) -> x.kind(1, 0, 1, 1));
        wrong("kind(1, 501, 1, 1)", (x, size) -> x.kind(1, 501, 1, 1));
        wrong("kind(1, 1, 0, 1)", (x, size) -> x.kind(1, 1, 0, 1));
        wrong("kind(1, 1, 100001, 1)", (x, size) -> x.kind(1, 1, 100001, 1));
        wrong("kind(1, 1, 1, -1)", (x, size) -> x.kind(1, 1, 1, -1));
        wrong("kind(1, 1, 1, 100001)", (x, size) -> x.kind(1, 1, 1, 100001));
    }

    private static void wrongPlacesAndPoints() {
        wrong("place(-1, 0)", (x, size) -> x.place(-1, 0));
        wrong("place(51, 0)", (x, size) -> x.place(51, 0));
        wrong("place(0, -1)", (x, size) -> x.place(0, -1));
        wrong("place(0, 51)", (x, size) -> x.place(0, 51));
        wrong("point(-1, 0, 0)", (x, size) -> x.point(-1, 0, 0));
        wrong("point(51, 0, 0)", (x, size) -> x.point(51, 0, 0));
        wrong("point(0, -1, 0)", (x, size) -> x.point(0, -1, 0));
        wrong("point(0, 51, 0)", (x, size) -> x.point(0, 51, 0));
        wrong("point(0, 0, -1)", (x, size) -> x.point(0, 0, -1));
        wrong("point(0, 0, 100001)", (x, size) -> x.point(0, 0, 100001));
    }

    private static void wrongHeightsStepsAndRuns() {
        wrong("height(0)", (x, size) -> x.height(0));
        wrong("height(51)", (x, size) -> x.height(51));
        wrong("step(0)", (x, size) -> x.step(0));
        wrong("step(101)", (x, size) -> x.step(101));
        wrong("run(0)", (x, size) -> x.run(0));
        wrong("run(-1)", (x, size) -> x.run(-1));
        wrong("run(10001)", (x, size) -> x.run(10001));
    }

    private static void wrongHoldsAndSensors() {
        wrong("hold(-1, 0)", (x, size) -> Rooms.hold(x, -1, 0));
        wrong("hold(one too far, NO)", (x, size) -> Rooms.hold(x, size[1], LampChoice.NO));
        wrong("hold(0, -3)", (x, size) -> Rooms.hold(x, 0, -3));
        wrong("hold(0, no such kind)", (x, size) -> Rooms.hold(x, 0, size[0]));
        wrong("sensor(-1, 0)", (x, size) -> Rooms.sensor(x, -1, 0));
        wrong("sensor(one too far, NONE)", (x, size) -> Rooms.sensor(x, size[1], LampChoice.NONE));
        wrong("sensor(0, NO)", (x, size) -> Rooms.sensor(x, 0, LampChoice.NO));
        wrong("sensor(0, no such point)", (x, size) -> Rooms.sensor(x, 0, size[2]));
    }

    private static void wrongAimsAndDaylights() {
        wrong("aim(-1, 5)", (x, size) -> x.aim(-1, 5));
        wrong("aim(one too far, 5)", (x, size) -> x.aim(size[2], 5));
        wrong("aim(0, -1)", (x, size) -> x.aim(0, -1));
        wrong("aim(0, 1000001)", (x, size) -> x.aim(0, 1000001));
        wrong("daylight(-1, 5)", (x, size) -> x.daylight(-1, 5));
        wrong("daylight(one too far, 5)", (x, size) -> x.daylight(size[2], 5));
        wrong("daylight(1, -1)", (x, size) -> x.daylight(1, -1));
        wrong("daylight(1, 100001)", (x, size) -> x.daylight(1, 100001));
    }

    private static void wrongQuestions() {
        wrong("light(-1, 0, 0)", (x, size) -> x.light(-1, 0, 0));
        wrong("light(no such kind, 0, 0)", (x, size) -> x.light(size[0], 0, 0));
        wrong("light(0, no such place, 0)", (x, size) -> x.light(0, size[1], 0));
        wrong("light(0, 0, no such point)", (x, size) -> x.light(0, 0, size[2]));
        wrong("lamp(one too far)", (x, size) -> x.lamp(size[1]));
        wrong("level(one too far)", (x, size) -> x.level(size[2]));
        wrong("even(-1)", (x, size) -> x.even(-1));
        wrong("even(2)", (x, size) -> x.even(2));
        wrong("dim(one too far)", (x, size) -> x.dim(size[1]));
        wrong("miss(one too far)", (x, size) -> x.miss(size[2]));
        wrong("own(one too far, 0)", (x, size) -> x.own(size[1], 0));
        wrong("own(0, 2)", (x, size) -> x.own(0, 2));
        wrong("own(0, -1)", (x, size) -> x.own(0, -1));
        wrong("used(-1)", (x, size) -> x.used(-1));
        wrong("used(3)", (x, size) -> x.used(3));
    }

    private static void oneTooMany() {
        leavesAll("a fourth kind", STATE, ALL, (x, size) -> x.kind(10000, 1, 1, 1));
        leavesAll("an eighth place", STATE, ALL, (x, size) -> x.place(4, 0));
        leavesAll("a seventeenth point", STATE, ALL, (x, size) -> x.point(50, 50, 100000));
    }

    /** In a full room each wrong number alone turns the illegal state into an illegal argument. */
    private static void argumentBeforeState() {
        LampChoice x = Rooms.inUse(3, 7, 16);
        int[][] kinds = {{0, 1, 1, 1}, {10001, 1, 1, 1}, {1, 0, 1, 1}, {1, 501, 1, 1}, {1, 1, 0, 1},
            {1, 1, 100001, 1}, {1, 1, 1, -1}, {1, 1, 1, 100001}};
        for (int[] k : kinds) {
            Check.argument("full: a wrong kind", () -> x.kind(k[0], k[1], k[2], k[3]));
        }
        int[][] places = {{-1, 0}, {51, 0}, {0, -1}, {0, 51}};
        for (int[] p : places) {
            Check.argument("full: a wrong place", () -> x.place(p[0], p[1]));
            Check.argument("full: a wrong point", () -> x.point(p[0], p[1], 0));
        }
        Check.argument("full: a point that wants too little", () -> x.point(0, 0, -1));
        Check.argument("full: a point that wants too much", () -> x.point(0, 0, 100001));
        Check.state("full: a right kind", () -> x.kind(1, 1, 1, 0));
        Check.state("full: a right place", () -> x.place(0, 0));
        Check.state("full: a right point", () -> x.point(0, 0, 0));
    }

    /** The report itself does 33 minutes, so both rooms stand just so far from the end. */
    private static void minutesThatWouldBeTooMany() {
        LampChoice x = nearTheEnd();
        LampChoice twin = nearTheEnd();
        Check.state("34 minutes, 33 are left", () -> x.run(34));
        Check.state("10000 minutes, 33 are left", () -> x.run(10000));
        Check.argument("10001 minutes, 33 are left", () -> x.run(10001));
        Check.argument("0 minutes, 33 are left", () -> x.run(0));
        Check.dueText("a run that is too long leaves all as it was", Rooms.report(x, 3, 2), Rooms.report(twin, 3, 2));
        Check.state("no minute is left", () -> x.run(1));
    }

    private static LampChoice nearTheEnd() {
        LampChoice x = Rooms.inUse(1, 3, 2);
        for (int run = 0; run < 99; run++) {
            x.run(10000);
        }
        x.run(10000 - 130 - 33);
        return x;
    }

    /** Also when nothing has been worked out since the last news. */
    private static void refusedBeforeAnyQuestion() {
        LampChoice x = Rooms.inUse(2, 5, 9);
        LampChoice twin = Rooms.inUse(2, 5, 9);
        x.height(6);
        twin.height(6);
        Check.argument("unasked: lamp", () -> x.lamp(5));
        Check.argument("unasked: level", () -> x.level(9));
        Check.argument("unasked: even", () -> x.even(2));
        Check.argument("unasked: dim", () -> x.dim(5));
        Check.argument("unasked: miss", () -> x.miss(9));
        Check.argument("unasked: own", () -> x.own(5, 0));
        Check.argument("unasked: run", () -> x.run(0));
        Check.argument("unasked: hold", () -> Rooms.hold(x, 0, 2));
        Check.argument("unasked: sensor", () -> Rooms.sensor(x, 0, 9));
        Check.dueText("unasked: all is as it was", Rooms.report(x, 5, 9), Rooms.report(twin, 5, 9));
    }
}
