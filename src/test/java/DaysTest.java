/** Promises 16 to 21: sensor, daylight, step, run, own, used. */
final class DaysTest {
    private DaysTest() {
    }

    public static void main(String[] args) {
        sensor();
        needs();
        daylight();
        step();
        run();
        runToTheEnd();
        own();
        burnt();
        severalLives();
        darkMinutesDoNotWear();
        lampsGo();
        refusedCallsLeaveLamps();
        noLamps();
        used();
        Check.end("DaysTest");
    }

    /** One lamp of 7 watts with light 1000 for one point that wants 800; life 1 hour, 13 cents. */
    private static LampChoice lampOf1000() {
        LampChoice x = new LampChoice();
        x.kind(9, 7, 1, 13);
        x.place(0, 0);
        x.point(0, 0, 800);
        return x;
    }

    private static void sensor() {
        LampChoice x = lampOf1000();
        x.run(30);
        Check.due("without a sensor", x.own(0, 0), 100);
        x.sensor(0, 0);
        x.run(30);
        Check.due("with a sensor", x.own(0, 0), 80);
        x.sensor(0, LampChoice.NONE);
        x.run(30);
        Check.due("without it again", x.own(0, 0), 100);
        for (int bad : Check.outside(0, 0)) {
            Check.argument("sensor(" + bad + ", 0)", () -> Rooms.sensor(x, bad, 0));
        }
        for (int bad : Check.outside(LampChoice.NONE, 0)) {
            Check.argument("sensor(0, " + bad + ")", () -> Rooms.sensor(x, 0, bad));
        }
        x.place(1, 1);
        x.hold(1, LampChoice.NONE);
        x.sensor(1, 0);
        x.run(30);
        Check.due("a sensor without a lamp", x.own(1, 0), LampChoice.NONE);
        x.hold(0, LampChoice.NONE);
        x.hold(1, 0);
        x.run(30);
        Check.due("the sensor is still there: 818 of light, 800 wanted", x.own(1, 0), 98);
    }

    private static void needs() {
        LampChoice x = lampOf1000();
        x.sensor(0, 0);
        x.step(100);
        int[][] daylightAndNeed = {
            {0, 80}, {1, 80}, {9, 80}, {10, 79}, {11, 79}, {790, 1}, {799, 1}, {800, 0}, {801, 0}, {100000, 0}, {795, 1}
        };
        for (int[] row : daylightAndNeed) {
            x.daylight(0, row[0]);
            x.run(1);
            Check.due("daylight " + row[0], x.own(0, 0), row[1]);
        }
        LampChoice y = new LampChoice();
        y.kind(1, 1, 1, 0);
        y.place(0, 0);
        y.point(0, 0, 50);
        y.point(50, 50, 0);
        y.sensor(0, 0);
        y.step(100);
        y.run(1);
        Check.due("light 111, 50 wanted: 49 at 45, 51 at 46", y.own(0, 0), 46);
        y.sensor(0, 1);
        y.run(1);
        Check.due("nothing wanted at the sensor", y.own(0, 0), 0);
        LampChoice z = new LampChoice();
        z.kind(1, 1, 1, 0);
        z.kind(10000, 9, 1, 0);
        z.place(50, 50);
        z.place(0, 0);
        z.point(0, 0, 1000);
        z.hold(0, 0);
        z.sensor(0, 0);
        z.step(100);
        z.run(1);
        Check.due("no light of its own at the sensor", z.own(0, 0), 100);
        z.daylight(0, 1000);
        z.run(1);
        Check.due("no light of its own, but daylight", z.own(0, 0), 0);
        z.daylight(0, 999);
        z.height(50);
        z.hold(0, 1);
        z.run(1);
        Check.due("light 1333, 1 lacks", z.own(0, 0), 1);
        z.daylight(0, 0);
        z.hold(1, 0);
        z.sensor(1, 0);
        z.run(1);
        Check.due("too weak for it alone", z.own(1, 0), 100);
        LampChoice w = new LampChoice();
        w.height(10);
        w.kind(10, 1, 1, 0);
        w.place(1, 0);
        w.point(0, 0, 1);
        w.sensor(0, 0);
        w.run(1);
        Check.due("light 99, 1 wanted: 0 at 1, 1 at 2", w.own(0, 0), 2);
    }

    private static void daylight() {
        LampChoice x = lampOf1000();
        Check.due("daylight at first", x.daylight(0, 100000), 0);
        Check.due("then", x.daylight(0, 5), 100000);
        for (int bad : Check.outside(0, 100000)) {
            Check.argument("daylight(0, " + bad + ")", () -> x.daylight(0, bad));
        }
        for (int bad : Check.outside(0, 0)) {
            Check.argument("daylight(" + bad + ", 0)", () -> x.daylight(bad, 0));
        }
        x.height(2);
        Check.due("daylight stays when lamps go", x.daylight(0, 0), 5);
        x.run(4);
        x.daylight(0, 1);
        Check.due("lamps stay when daylight changes", x.own(0, 0), 40);
        Check.due("daylight is no light of the lamps", x.level(0), 2250);
    }

    private static void step() {
        LampChoice x = lampOf1000();
        for (int bad : Check.outside(1, 100)) {
            Check.argument("step(" + bad + ")", () -> x.step(bad));
        }
        Check.due("step at first", x.step(1), 10);
        x.run(3);
        Check.due("in steps of 1", x.own(0, 0), 3);
        Check.due("step(40)", x.step(40), 1);
        x.run(1);
        Check.due("in steps of 40", x.own(0, 0), 43);
        x.run(1);
        Check.due("and again", x.own(0, 0), 83);
        x.run(1);
        Check.due("no further than the need", x.own(0, 0), 100);
        x.sensor(0, 0);
        x.run(9);
        Check.due("80 is the need", x.own(0, 0), 80);
        x.daylight(0, 500);
        x.run(1);
        Check.due("down by 40", x.own(0, 0), 40);
        x.run(1);
        Check.due("down to 30", x.own(0, 0), 30);
        Check.due("step(100)", x.step(100), 40);
        Check.due("step(100) again", x.step(100), 100);
    }

    private static void run() {
        LampChoice x = lampOf1000();
        for (int bad : Check.outside(1, 10000)) {
            Check.argument("run(" + bad + ")", () -> x.run(bad));
        }
        Check.due("run(1)", x.run(1), 1);
        Check.due("run(10000)", x.run(10000), 10001);
        Check.due("run(2)", x.run(2), 10003);
        x.height(9);
        Check.due("minutes stay when lamps go", x.run(1), 10004);
    }

    private static void runToTheEnd() {
        LampChoice x = lampOf1000();
        for (int number = 1; number < 100; number++) {
            Check.due("run " + number, x.run(10000), number * 10000);
        }
        Check.due("nearly the end", x.run(9990), 999990);
        long before = x.used(0);
        int lasted = x.own(0, 1);
        Check.state("11 more", () -> x.run(11));
        Check.state("10000 more", () -> x.run(10000));
        Check.argument("10001 more", () -> x.run(10001));
        Check.argument("0 more", () -> x.run(0));
        Check.due("a refused run uses nothing", x.used(0), before);
        Check.due("a refused run wears nothing", x.own(0, 1), lasted);
        Check.due("10 more", x.run(10), 1000000);
        Check.state("1 more", () -> x.run(1));
        Check.due("used in all", x.used(0), (550 + 100L * 999990) * 7);
        Check.due("made new", x.used(2), 999999 / 60);
        Check.due("paid", x.used(1), 999999 / 60 * 13);
    }

    private static void own() {
        LampChoice x = lampOf1000();
        x.place(1, 1);
        Check.due("level at first", x.own(1, 0), 0);
        Check.due("minutes at first", x.own(1, 1), 0);
        Check.due("no lamp: level", x.own(0, 0), LampChoice.NONE);
        Check.due("no lamp: minutes", x.own(0, 1), LampChoice.NONE);
        x.run(7);
        Check.due("level", x.own(1, 0), 70);
        Check.due("minutes", x.own(1, 1), 7);
        for (int bad : Check.outside(0, 1)) {
            Check.argument("own(" + bad + ", 0)", () -> x.own(bad, 0));
            Check.argument("own(0, " + bad + ")", () -> x.own(0, bad));
        }
    }

    private static void burnt() {
        LampChoice x = lampOf1000();
        x.run(60);
        Check.due("a whole life", x.own(0, 1), 60);
        Check.due("burnt, but not made new yet", x.used(2), 0);
        x.run(1);
        Check.due("the first minute of the new one", x.own(0, 1), 1);
        Check.due("its level stays", x.own(0, 0), 100);
        Check.due("one is made new", x.used(2), 1);
        Check.due("for its cents", x.used(1), 13);
        x.run(59);
        Check.due("another whole life", x.own(0, 1), 60);
        Check.due("still one is made new", x.used(2), 1);
        x.sensor(0, 0);
        Check.due("what was made new stays", x.used(2), 1);
        x.run(60);
        x.daylight(0, 800);
        x.step(100);
        x.run(500);
        Check.due("burnt and dark: it waits", x.own(0, 1), 60);
        Check.due("burnt and dark: nothing is made new", x.used(2), 1);
        x.daylight(0, 0);
        x.run(1);
        Check.due("light again: made new", x.used(2), 2);
        Check.due("light again: paid", x.used(1), 26);
        Check.due("light again: minutes", x.own(0, 1), 1);
    }

    private static void severalLives() {
        LampChoice x = lampOf1000();
        x.kind(9, 6, 2, 100000);
        x.run(480);
        Check.due("four lives of 120 minutes: three made new", x.used(2), 3);
        Check.due("paid for three", x.used(1), 300000);
        Check.due("the last one is burnt", x.own(0, 1), 120);
        x.run(121);
        Check.due("two more", x.used(2), 5);
        Check.due("the first minute", x.own(0, 1), 1);
    }

    private static void darkMinutesDoNotWear() {
        LampChoice x = lampOf1000();
        x.sensor(0, 0);
        x.daylight(0, 800);
        x.run(300);
        Check.due("dark: level", x.own(0, 0), 0);
        Check.due("dark: minutes", x.own(0, 1), 0);
        Check.due("dark: used", x.used(0), 0);
        x.daylight(0, 770);
        x.run(2);
        Check.due("dim: level", x.own(0, 0), 3);
        Check.due("dim: minutes", x.own(0, 1), 2);
        Check.due("dim: used", x.used(0), 2 * 3 * 7);
    }

    /** One of the calls that make all lamps go, also if the best choice stays the same. */
    private interface News {
        void tell(LampChoice x);
    }

    private static void lampsGo() {
        goWith("kind", x -> x.kind(1, 500, 1, 0));
        goWith("place", x -> x.place(50, 50));
        goWith("point", x -> x.point(0, 0, 0));
        goWith("height", x -> x.height(3));
        goWith("hold", x -> x.hold(0, LampChoice.NO));
        goWith("sensor", x -> x.sensor(0, LampChoice.NONE));
        LampChoice x = lampOf1000();
        x.run(65);
        x.aim(0, 5);
        x.daylight(0, 5);
        x.step(5);
        x.scene();
        x.best();
        Check.due("others leave the level", x.own(0, 0), 100);
        Check.due("others leave the minutes", x.own(0, 1), 5);
    }

    private static void goWith(String name, News news) {
        LampChoice x = lampOf1000();
        x.run(65);
        long before = x.used(0);
        news.tell(x);
        Check.due(name + ": the lamp is the same", x.lamp(0), 0);
        Check.due(name + ": level", x.own(0, 0), 0);
        Check.due(name + ": minutes", x.own(0, 1), 0);
        Check.due(name + ": what was used stays", x.used(0), before);
        Check.due(name + ": what was paid stays", x.used(1), 13);
        Check.due(name + ": what was made new stays", x.used(2), 1);
    }

    private static void refusedCallsLeaveLamps() {
        LampChoice x = lampOf1000();
        x.kind(1, 500, 1, 0);
        x.kind(1, 500, 1, 0);
        for (int place = 1; place < 7; place++) {
            x.place(50, 50);
        }
        for (int point = 1; point < 16; point++) {
            x.point(0, 0, 0);
        }
        x.hold(0, 0);
        x.run(7);
        Check.argument("kind", () -> x.kind(0, 1, 1, 1));
        Check.state("kind", () -> x.kind(1, 1, 1, 1));
        Check.argument("place", () -> x.place(-1, 0));
        Check.state("place", () -> x.place(0, 0));
        Check.argument("point", () -> x.point(0, 0, -1));
        Check.state("point", () -> x.point(0, 0, 0));
        Check.argument("height", () -> x.height(0));
        Check.argument("hold", () -> Rooms.hold(x, 0, 3));
        Check.argument("sensor", () -> Rooms.sensor(x, 0, 16));
        Check.argument("daylight", () -> x.daylight(0, -1));
        Check.argument("step", () -> x.step(0));
        Check.argument("run", () -> x.run(0));
        Check.due("refused: level", x.own(0, 0), 70);
        Check.due("refused: minutes", x.own(0, 1), 7);
        Check.due("refused: the best", x.best(), 7);
        Check.due("refused: height", x.height(4), 3);
        Check.due("refused: step", x.step(4), 10);
        Check.due("refused: daylight", x.daylight(0, 4), 0);
        Check.due("refused: run", x.run(1), 8);
    }

    private static void noLamps() {
        LampChoice x = lampOf1000();
        x.run(10);
        long before = x.used(0);
        x.point(0, 0, 100000);
        Check.due("no choice: level", x.own(0, 0), LampChoice.NONE);
        Check.due("no choice: minutes", x.own(0, 1), LampChoice.NONE);
        Check.due("no choice: minutes go on", x.run(500), 510);
        Check.due("no choice: nothing is used", x.used(0), before);
        x.kind(10000, 1, 1, 0);
        Check.due("a lamp again: level", x.own(0, 0), 0);
        x.run(1);
        Check.due("a lamp again: then", x.own(0, 0), 10);
    }

    private static void used() {
        LampChoice x = lampOf1000();
        x.run(3);
        Check.due("10 + 20 + 30 times 7", x.used(0), 420);
        x.kind(9000, 500, 100000, 100000);
        x.place(0, 0);
        x.hold(0, 1);
        x.hold(1, 0);
        x.step(100);
        x.run(10000);
        Check.due("two lamps", x.used(0), 420 + 10000L * 100 * 507);
        Check.due("the small one was made new", x.used(2), 166);
        Check.due("for its own cents", x.used(1), 166 * 13);
        Check.due("the large one lasts", x.own(0, 1), 10000);
        Check.due("the small one", x.own(1, 1), 10000 - 166 * 60);
        for (int bad : Check.outside(0, 2)) {
            Check.argument("used(" + bad + ")", () -> x.used(bad));
        }
    }
}
