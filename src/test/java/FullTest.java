/** As many as there may be, and one more: kinds, places, points, minutes, sweeps; and the greatest sums. */
final class FullTest {
    private FullTest() {
    }

    public static void main(String[] args) {
        kinds();
        places();
        points();
        minutes();
        minutesInOneStep();
        lastNumbers();
        lastOnesCount();
        allPlacesWithoutLamps();
        allPlacesNeeded();
        manyEquals();
        greatestSums();
        greatestMisses();
        Check.end("FullTest");
    }

    /** "KINDS are 0 .. 2, as they come"; "illegal state: there are 3" */
    private static void kinds() {
        LampChoice x = new LampChoice();
        for (int kind = 0; kind < 3; kind++) {
            Check.due("kind " + kind, x.kind(9 + kind, 5, 1, 1), kind);
        }
        for (int again = 0; again < 3; again++) {
            Check.state("a fourth kind", () -> x.kind(9, 5, 1, 1));
        }
        x.place(0, 0);
        x.point(0, 0, 0);
        Check.due("the third kind is as it was told", x.light(2, 0, 0), 11000 / 9);
        Check.argument("the fourth did not come: light", () -> x.light(3, 0, 0));
        Check.argument("the fourth did not come: hold", () -> Rooms.hold(x, 0, 3));
    }

    /** "PLACES are 0 .. 6, as they come"; "illegal state: there are 7" */
    private static void places() {
        LampChoice x = new LampChoice();
        x.kind(9, 5, 1, 1);
        x.point(0, 0, 0);
        for (int place = 0; place < 7; place++) {
            Check.due("place " + place, x.place(place, 0), place);
        }
        for (int again = 0; again < 3; again++) {
            Check.state("an eighth place", () -> x.place(0, 0));
        }
        Check.due("the seventh place is where it was told", x.light(0, 6, 0), 9000 / 45);
        Check.argument("the eighth did not come: light", () -> x.light(0, 7, 0));
        Check.argument("the eighth did not come: hold", () -> Rooms.hold(x, 7, 0));
        Check.argument("the eighth did not come: lamp", () -> x.lamp(7));
        Check.argument("the eighth did not come: dim", () -> x.dim(7));
        Check.argument("the eighth did not come: sensor", () -> Rooms.sensor(x, 7, 0));
        Check.argument("the eighth did not come: own", () -> x.own(7, 0));
    }

    /** "POINTS 0 .. 15, as they come"; "illegal state: there are 16" */
    private static void points() {
        LampChoice x = new LampChoice();
        x.kind(9, 5, 1, 1);
        x.place(0, 0);
        for (int point = 0; point < 16; point++) {
            Check.due("point " + point, x.point(0, point, 0), point);
        }
        for (int again = 0; again < 3; again++) {
            Check.state("a seventeenth point", () -> x.point(0, 0, 0));
        }
        Check.due("the sixteenth point is where it was told", x.light(0, 0, 15), 9000 / 234);
        Check.argument("the seventeenth did not come: light", () -> x.light(0, 0, 16));
        Check.argument("the seventeenth did not come: level", () -> x.level(16));
        Check.argument("the seventeenth did not come: aim", () -> x.aim(16, 0));
        Check.argument("the seventeenth did not come: miss", () -> x.miss(16));
        Check.argument("the seventeenth did not come: sensor", () -> Rooms.sensor(x, 0, 16));
        Check.argument("the seventeenth did not come: daylight", () -> x.daylight(16, 0));
    }

    /** "illegal state: there would be more than 1000000" */
    private static void minutes() {
        LampChoice x = new LampChoice();
        for (int run = 1; run < 100; run++) {
            x.run(10000);
        }
        Check.due("one minute less than there may be", x.run(9999), 999999);
        Check.state("one too many", () -> x.run(2));
        Check.state("far too many", () -> x.run(10000));
        Check.due("as many as there may be", x.run(1), 1000000);
        Check.state("one more", () -> x.run(1));
        Check.state("10000 more", () -> x.run(10000));
        Check.argument("0 more is no state", () -> x.run(0));
        Check.argument("10001 more is no state", () -> x.run(10001));
        Check.argument("the most of int is no state", () -> x.run(Integer.MAX_VALUE));
        x.height(7);
        Check.state("news gives no minutes back", () -> x.run(1));
    }

    private static void minutesInOneStep() {
        LampChoice x = new LampChoice();
        for (int run = 1; run <= 99; run++) {
            x.run(10000);
        }
        Check.due("the last 10000 at once", x.run(10000), 1000000);
        Check.state("one more", () -> x.run(1));
    }

    private static LampChoice fullRoom() {
        LampChoice x = new LampChoice();
        for (int kind = 0; kind < 3; kind++) {
            x.kind(90 * (kind + 1), 10 * (kind + 1), 1, 1);
        }
        for (int place = 0; place < 7; place++) {
            x.place(8 * place, 0);
        }
        for (int point = 0; point < 16; point++) {
            x.point(3 * point, 4, 0);
        }
        return x;
    }

    private static void lastNumbers() {
        LampChoice x = fullRoom();
        x.hold(6, 2);
        x.sensor(6, 15);
        Check.due("light(2, 6, 15)", x.light(2, 6, 15), 270000 / 34);
        Check.due("lamp(6)", x.lamp(6), 2);
        Check.due("level(15)", x.level(15), 7941);
        Check.due("aim(15)", x.aim(15, 7941), 0);
        Check.due("miss(15) depends on dim(6)", x.miss(15), 794100 - 7941 * x.dim(6));
        Check.due("daylight(15)", x.daylight(15, 1), 0);
        x.run(1);
        Check.due("own(6, 0): nothing is wanted at 15", x.own(6, 0), 0);
        x.sensor(6, LampChoice.NONE);
        x.run(1);
        Check.due("own(6, 0): without the sensor", x.own(6, 0), 10);
        Check.due("own(6, 1)", x.own(6, 1), 1);
    }

    /** The last point is the one that wants light, the last place the one that gives it, the last kind the one that can. */
    private static void lastOnesCount() {
        LampChoice x = new LampChoice();
        x.kind(1, 1, 1, 1);
        x.kind(2, 1, 1, 1);
        x.kind(9, 9, 1, 1);
        for (int place = 0; place < 6; place++) {
            x.place(50, 50);
        }
        x.place(0, 0);
        for (int point = 0; point < 15; point++) {
            x.point(0, 0, 0);
        }
        Check.due("nobody wants light", x.best(), 0);
        x.point(0, 0, 1000);
        Check.due("the last point wants it: best()", x.best(), 9);
        Check.due("the last point wants it: lamp(6)", x.lamp(6), 2);
        Check.due("the last point wants it: level(15)", x.level(15), 1000);
        x.hold(6, 1);
        Check.due("the last place must not: best()", x.best(), LampChoice.NO);
        x.hold(6, 2);
        Check.due("the last place must: best()", x.best(), 9);
    }

    /** "0 without lamps", "NONE without a lamp there": at all places, with a best choice and without one */
    private static void allPlacesWithoutLamps() {
        LampChoice x = fullRoom();
        x.aim(15, 12);
        dueDark("nothing is wanted", x, 0);
        LampChoice y = new LampChoice();
        y.kind(1, 1, 1, 1);
        for (int place = 0; place < 7; place++) {
            y.place(8 * place, 0);
        }
        for (int point = 0; point < 16; point++) {
            y.point(3 * point, 4, 100000);
        }
        y.aim(15, 12);
        dueDark("too much is wanted", y, LampChoice.NO);
    }

    private static void dueDark(String name, LampChoice x, int best) {
        Check.due(name + ": best()", x.best(), best);
        Check.due(name + ": scene()", x.scene(), 0);
        Check.due(name + ": run(61)", x.run(61), 61);
        for (int place = 0; place < 7; place++) {
            Check.due(name + ": dim(" + place + ")", x.dim(place), LampChoice.NONE);
            Check.due(name + ": own(" + place + ", 0)", x.own(place, 0), LampChoice.NONE);
            Check.due(name + ": own(" + place + ", 1)", x.own(place, 1), LampChoice.NONE);
        }
        Check.due(name + ": miss(14)", x.miss(14), 0);
        Check.due(name + ": miss(15)", x.miss(15), 1200);
        Check.due(name + ": used(0)", x.used(0), 0);
        Check.due(name + ": used(2)", x.used(2), 0);
    }

    private static void allPlacesNeeded() {
        LampChoice x = new LampChoice();
        x.kind(9, 5, 1, 1);
        x.kind(8, 1, 1, 1);
        for (int place = 0; place < 7; place++) {
            x.place(0, 0);
        }
        x.point(0, 0, 7000);
        Check.due("the greatest kind at all places: best()", x.best(), 35);
        for (int place = 0; place < 7; place++) {
            Check.due("the greatest kind at all places: lamp(" + place + ")", x.lamp(place), 0);
        }
        Check.due("the greatest kind at all places: level(0)", x.level(0), 7000);
        x.point(0, 0, 7001);
        Check.due("one more than all can give", x.best(), LampChoice.NO);
    }

    /** All choices of five lamps of any kind have the same watts: 5103 of them, as even as one another. */
    private static void manyEquals() {
        LampChoice x = new LampChoice();
        for (int kind = 0; kind < 3; kind++) {
            x.kind(9, 500, 1, 1);
        }
        for (int place = 0; place < 7; place++) {
            x.place(20, 20);
        }
        for (int point = 0; point < 16; point++) {
            x.point(20, 20, 5000);
        }
        Check.due("many equals: best()", x.best(), 2500);
        for (int place = 0; place < 7; place++) {
            Check.due("many equals: lamp(" + place + ")", x.lamp(place), place < 2 ? LampChoice.NONE : 0);
        }
        Check.due("many equals: even(0)", x.even(0), 1);
        Check.due("many equals: even(1)", x.even(1), 1);
    }

    /** Seven lamps of the most watts and cents, each minute at full level: the sums do not fit into an int. */
    private static void greatestSums() {
        LampChoice x = new LampChoice();
        x.kind(10000, 500, 1, 100000);
        x.height(1);
        for (int place = 0; place < 7; place++) {
            x.place(50, 50);
            x.hold(place, 0);
        }
        for (int point = 0; point < 16; point++) {
            x.point(50, 50, 100000);
        }
        x.step(100);
        for (int run = 0; run < 100; run++) {
            x.run(10000);
        }
        Check.due("the most watts", x.best(), 3500);
        Check.due("the highest level", x.level(15), 70000000);
        Check.due("the most used", x.used(0), 350000000000L);
        Check.due("the most made new", x.used(2), 7 * 16666);
        Check.due("the most paid", x.used(1), 7L * 16666 * 100000);
    }

    /** The squares of such misses, summed up, do not fit into a long; a half more or less decides. */
    private static void greatestMisses() {
        LampChoice x = new LampChoice();
        x.kind(10000, 500, 1, 100000);
        x.height(1);
        for (int place = 0; place < 7; place++) {
            x.place(50, 50);
            x.hold(place, 0);
        }
        for (int point = 0; point < 16; point++) {
            x.point(50, 50, 0);
            x.aim(point, 950000);
        }
        Check.due("9 and 10 are as good: dim(0)", x.dim(0), 9);
        Check.due("9 and 10 are as good: dim(1)", x.dim(1), 0);
        Check.due("9 and 10 are as good: miss(15)", x.miss(15), 5000000);
        x.aim(15, 950001);
        Check.due("10 is better: dim(0)", x.dim(0), 10);
        Check.due("10 is better: miss(15)", x.miss(15), -4999900);
        x.aim(15, 949999);
        Check.due("9 is better: dim(0)", x.dim(0), 9);
    }
}
