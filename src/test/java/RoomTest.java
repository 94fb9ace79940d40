/** Promises 1 to 7: a new object, kind, place, point, height, hold, light. */
final class RoomTest {
    private RoomTest() {
    }

    public static void main(String[] args) {
        newObject();
        kind();
        place();
        point();
        height();
        hold();
        light();
        Check.end("RoomTest");
    }

    private static void newObject() {
        LampChoice x = new LampChoice();
        Check.argument("new: light(0, 0, 0)", () -> x.light(0, 0, 0));
        Check.argument("new: lamp(0)", () -> x.lamp(0));
        Check.argument("new: level(0)", () -> x.level(0));
        Check.argument("new: hold(0, NONE)", () -> Rooms.hold(x, 0, LampChoice.NONE));
        Check.argument("new: sensor(0, NONE)", () -> Rooms.sensor(x, 0, LampChoice.NONE));
        Check.due("new: best()", x.best(), 0);
        Check.due("new: even(0)", x.even(0), 0);
        Check.due("new: even(1)", x.even(1), 1);
        Check.due("new: scene()", x.scene(), 0);
        for (int what = 0; what < 3; what++) {
            Check.due("new: used(" + what + ")", x.used(what), 0);
        }
        Check.due("new: height", x.height(4), 3);
        Check.due("new: step", x.step(4), 10);
        Check.due("new: run(1)", x.run(1), 1);
        Check.due("another one knows nothing of the first", new LampChoice().height(5), 3);
    }

    private static void kind() {
        LampChoice x = new LampChoice();
        for (int bad : Check.outside(1, 10000)) {
            Check.argument("kind: strength " + bad, () -> x.kind(bad, 1, 1, 0));
        }
        for (int bad : Check.outside(1, 500)) {
            Check.argument("kind: watts " + bad, () -> x.kind(1, bad, 1, 0));
        }
        for (int bad : Check.outside(1, 100000)) {
            Check.argument("kind: life " + bad, () -> x.kind(1, 1, bad, 0));
        }
        for (int bad : Check.outside(0, 100000)) {
            Check.argument("kind: cents " + bad, () -> x.kind(1, 1, 1, bad));
        }
        Check.due("the first kind", x.kind(1, 1, 1, 0), 0);
        Check.due("the second kind", x.kind(10000, 500, 100000, 100000), 1);
        Check.due("the third kind", x.kind(5, 5, 5, 5), 2);
        Check.state("a fourth kind", () -> x.kind(1, 1, 1, 0));
        Check.argument("a fourth kind that is wrong", () -> x.kind(1, 1, 1, -1));
        Check.argument("a fourth kind is not there", () -> x.light(3, x.place(0, 0), x.point(0, 0, 0)));
    }

    private static void place() {
        LampChoice x = new LampChoice();
        for (int bad : Check.outside(0, 50)) {
            Check.argument("place: x " + bad, () -> x.place(bad, 0));
            Check.argument("place: y " + bad, () -> x.place(0, bad));
        }
        for (int number = 0; number < 7; number++) {
            int at = number % 2 * 50;
            Check.due("place " + number, x.place(at, 50 - at), number);
        }
        Check.state("an eighth place", () -> x.place(0, 0));
        Check.argument("an eighth place that is wrong", () -> x.place(0, 51));
        Check.due("lamp(6)", x.lamp(6), LampChoice.NONE);
        Check.argument("lamp(7)", () -> x.lamp(7));
    }

    private static void point() {
        LampChoice x = new LampChoice();
        for (int bad : Check.outside(0, 50)) {
            Check.argument("point: x " + bad, () -> x.point(bad, 0, 0));
            Check.argument("point: y " + bad, () -> x.point(0, bad, 0));
        }
        for (int bad : Check.outside(0, 100000)) {
            Check.argument("point: wanted " + bad, () -> x.point(0, 0, bad));
        }
        for (int number = 0; number < 16; number++) {
            int at = number % 2 * 50;
            Check.due("point " + number, x.point(at, 50 - at, 0), number);
        }
        Check.state("a seventeenth point", () -> x.point(0, 0, 0));
        Check.argument("a seventeenth point that is wrong", () -> x.point(0, 0, 100001));
        Check.due("level(15)", x.level(15), 0);
        Check.argument("level(16)", () -> x.level(16));
        LampChoice y = new LampChoice();
        Check.due("a point that wants the most", y.point(50, 0, 100000), 0);
        Check.due("best of what can't be", y.best(), LampChoice.NO);
    }

    private static void height() {
        LampChoice x = new LampChoice();
        x.kind(18, 1, 1, 0);
        x.place(0, 0);
        x.point(0, 0, 0);
        Check.due("light at the first height", x.light(0, 0, 0), 2000);
        for (int bad : Check.outside(1, 50)) {
            Check.argument("height(" + bad + ")", () -> x.height(bad));
        }
        Check.due("height(1)", x.height(1), 3);
        Check.due("light at height 1", x.light(0, 0, 0), 18000);
        Check.due("height(50)", x.height(50), 1);
        Check.due("light at height 50", x.light(0, 0, 0), 7);
        Check.due("height(50) again", x.height(50), 50);
    }

    private static void hold() {
        LampChoice x = new LampChoice();
        x.place(0, 0);
        x.place(1, 0);
        Check.argument("hold to a kind that is not there yet", () -> Rooms.hold(x, 0, 0));
        x.kind(9, 10, 1, 0);
        x.kind(18, 15, 1, 0);
        for (int bad : Check.outside(0, 1)) {
            Check.argument("hold(" + bad + ", 0)", () -> Rooms.hold(x, bad, 0));
        }
        for (int bad : Check.outside(LampChoice.NO, 1)) {
            Check.argument("hold(0, " + bad + ")", () -> Rooms.hold(x, 0, bad));
        }
        Check.due("nothing held", x.best(), 0);
        x.hold(0, 1);
        Check.due("held to a kind", x.best(), 15);
        x.hold(1, 0);
        Check.due("both held", x.best(), 25);
        Check.due("lamp(0)", x.lamp(0), 1);
        Check.due("lamp(1)", x.lamp(1), 0);
        x.hold(0, LampChoice.NO);
        Check.due("held to nothing again", x.best(), 10);
        x.hold(0, LampChoice.NONE);
        x.hold(1, LampChoice.NONE);
        x.point(0, 0, 1000);
        Check.due("all held to NONE", x.best(), LampChoice.NO);
        x.hold(0, LampChoice.NO);
        Check.due("one is free again", x.best(), 10);
    }

    private static void light() {
        LampChoice x = new LampChoice();
        x.kind(10, 1, 1, 0);
        x.kind(10000, 1, 1, 0);
        x.place(1, 2);
        x.place(50, 50);
        x.point(0, 0, 0);
        x.point(1, 2, 0);
        x.point(4, 6, 0);
        for (int bad : Check.outside(0, 1)) {
            Check.argument("light of kind " + bad, () -> x.light(bad, 0, 0));
            Check.argument("light at place " + bad, () -> x.light(0, bad, 0));
        }
        for (int bad : Check.outside(0, 2)) {
            Check.argument("light for point " + bad, () -> x.light(0, 0, bad));
        }
        Check.due("10000 by 14", x.light(0, 0, 0), 714);
        Check.due("10000 by 9", x.light(0, 0, 1), 1111);
        Check.due("10000 by 9 + 9 + 16", x.light(0, 0, 2), 294);
        Check.due("10000000 by 14", x.light(1, 0, 0), 714285);
        Check.due("10000 by 5009", x.light(0, 1, 0), 1);
        x.height(50);
        Check.due("10000 by 7500", x.light(0, 1, 0), 1);
        x.height(1);
        Check.due("the most", x.light(1, 0, 1), 10000000);
    }
}
