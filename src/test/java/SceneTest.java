/** Promises 12 to 15: aim, scene, dim, miss. */
final class SceneTest {
    private SceneTest() {
    }

    public static void main(String[] args) {
        aim();
        oneLamp();
        leastOfSeveral();
        betterByOne();
        brightestAndDarkest();
        twoLamps();
        twentySweepsAtMost();
        strongestLights();
        withoutLamps();
        lampsWithoutPoints();
        asItWouldComeNow();
        wrongArguments();
        Check.end("SceneTest");
    }

    /** One lamp with light 200 for one point. */
    private static LampChoice lampOf200() {
        LampChoice x = new LampChoice();
        x.height(5);
        x.kind(5, 1, 1, 0);
        x.place(0, 0);
        x.hold(0, 0);
        x.point(0, 0, 0);
        return x;
    }

    private static void aim() {
        LampChoice x = lampOf200();
        Check.due("the aim at first", x.aim(0, 1000000), 0);
        Check.due("then", x.aim(0, 7), 1000000);
        for (int bad : Check.outside(0, 1000000)) {
            Check.argument("aim(0, " + bad + ")", () -> x.aim(0, bad));
        }
        for (int bad : Check.outside(0, 0)) {
            Check.argument("aim(" + bad + ", 0)", () -> x.aim(bad, 0));
        }
        Check.due("a refused aim changes nothing", x.aim(0, 0), 7);
        x.point(1, 1, 0);
        x.aim(1, 55);
        x.height(6);
        x.hold(0, LampChoice.NO);
        Check.due("aims stay when lamps go", x.aim(1, 0), 55);
    }

    private static void oneLamp() {
        LampChoice x = lampOf200();
        x.aim(0, 120);
        Check.due("one lamp: scene()", x.scene(), 2);
        Check.due("one lamp: dim(0)", x.dim(0), 60);
        Check.due("one lamp: miss(0)", x.miss(0), 0);
        x.point(0, 5, 0);
        Check.due("two points: miss(1)", x.miss(1), -100 * 48);
        Check.due("two points: dim(0)", x.dim(0), 48);
        Check.due("two points: miss(0)", x.miss(0), 12000 - 200 * 48);
    }

    private static void leastOfSeveral() {
        LampChoice x = lampOf200();
        x.aim(0, 1);
        Check.due("0 and 1 are as good: dim", x.dim(0), 0);
        Check.due("0 and 1 are as good: miss", x.miss(0), 100);
        Check.due("0 and 1 are as good: scene", x.scene(), 1);
        x.aim(0, 3);
        Check.due("1 and 2 are as good: dim", x.dim(0), 1);
        Check.due("1 and 2 are as good: miss", x.miss(0), 100);
        Check.due("1 and 2 are as good: scene", x.scene(), 2);
        x.aim(0, 199);
        Check.due("99 and 100 are as good: dim", x.dim(0), 99);
    }

    /** With lights 1, 9, 9, 6 the squares' sum is 10000 at dim 0 and 10000 - 200 + 199 at dim 1. */
    private static void betterByOne() {
        LampChoice x = new LampChoice();
        x.height(10);
        x.kind(1, 1, 1, 0);
        x.place(0, 0);
        x.hold(0, 0);
        x.point(25, 0, 0);
        x.point(1, 2, 0);
        x.point(2, 1, 0);
        x.point(5, 5, 0);
        Check.due("light 1", x.light(0, 0, 0), 1);
        Check.due("light 9", x.light(0, 0, 2), 9);
        Check.due("light 6", x.light(0, 0, 3), 6);
        x.aim(0, 1);
        Check.due("better by one: dim(0)", x.dim(0), 1);
        Check.due("better by one: miss(0)", x.miss(0), 99);
        Check.due("better by one: miss(3)", x.miss(3), -6);
    }

    private static void brightestAndDarkest() {
        LampChoice x = lampOf200();
        x.aim(0, 1000000);
        Check.due("brightest: dim", x.dim(0), 100);
        Check.due("brightest: miss", x.miss(0), 100000000 - 20000);
        Check.due("brightest: scene", x.scene(), 2);
        x.aim(0, 0);
        Check.due("darkest: dim", x.dim(0), 0);
        Check.due("darkest: miss", x.miss(0), 0);
        Check.due("darkest: scene", x.scene(), 1);
    }

    private static void twoLamps() {
        LampChoice x = lampOf200();
        x.place(0, 0);
        x.hold(1, 0);
        x.aim(0, 300);
        Check.due("the first place comes first", x.dim(0), 100);
        Check.due("the second takes the rest", x.dim(1), 50);
        Check.due("nothing is missed", x.miss(0), 0);
        Check.due("two lamps: scene()", x.scene(), 2);
        x.place(9, 9);
        x.hold(2, LampChoice.NONE);
        Check.due("no lamp, no dim", x.dim(2), LampChoice.NONE);
        x.hold(0, LampChoice.NONE);
        Check.due("no lamp at the first place", x.dim(0), LampChoice.NONE);
        Check.due("the second does it alone", x.dim(1), 100);
        Check.due("what is missed then", x.miss(0), 10000);
    }

    /** Two lamps close to one another, of which only the far one would do: they get there slowly. */
    private static void twentySweepsAtMost() {
        LampChoice x = new LampChoice();
        x.height(10);
        x.kind(100, 1, 1, 0);
        x.place(10, 10);
        x.place(11, 10);
        x.hold(0, 0);
        x.hold(1, 0);
        x.point(5, 10, 0);
        x.point(16, 10, 0);
        NaiveLamps naive = new NaiveLamps();
        naive.height = 10;
        naive.addKind(100, 1, 1, 0);
        naive.addPlace(10, 10);
        naive.addPlace(11, 10);
        naive.held.set(0, 0);
        naive.held.set(1, 0);
        naive.addPoint(5, 10, 0);
        naive.addPoint(16, 10, 0);
        int most = 0;
        for (int one = 0; one <= 1000; one += 100) {
            for (int other = 0; other <= 1000; other += 100) {
                x.aim(0, one);
                x.aim(1, other);
                naive.aims.set(0, one);
                naive.aims.set(1, other);
                naive.news();
                String aims = "aims " + one + ", " + other;
                Check.due(aims + ": scene()", x.scene(), naive.scene().sweeps);
                Check.due(aims + ": dim(0)", x.dim(0), naive.scene().dims[0]);
                Check.due(aims + ": dim(1)", x.dim(1), naive.scene().dims[1]);
                most = Math.max(most, x.scene());
            }
        }
        Check.due("the most sweeps", most, 20);
    }

    private static void strongestLights() {
        LampChoice x = new LampChoice();
        x.kind(10000, 1, 1, 0);
        x.height(1);
        for (int place = 0; place < 7; place++) {
            x.place(7, 7);
            x.hold(place, 0);
        }
        for (int point = 0; point < 16; point++) {
            x.point(7, 7, 0);
            x.aim(point, 1000000);
        }
        Check.due("strongest: dim(0)", x.dim(0), 10);
        Check.due("strongest: dim(6)", x.dim(6), 0);
        Check.due("strongest: miss(15)", x.miss(15), 0);
        Check.due("strongest: scene()", x.scene(), 2);
        x.aim(0, 0);
        Check.due("one of 16 aims is 0: dim(0)", x.dim(0), 9);
        Check.due("one of 16 aims is 0: miss(0)", x.miss(0), -90000000);
        Check.due("one of 16 aims is 0: miss(1)", x.miss(1), 10000000);
    }

    private static void withoutLamps() {
        LampChoice x = new LampChoice();
        x.kind(9, 1, 1, 0);
        x.place(0, 0);
        x.point(0, 0, 0);
        x.aim(0, 12);
        Check.due("the best has no lamps: scene()", x.scene(), 0);
        Check.due("the best has no lamps: dim(0)", x.dim(0), LampChoice.NONE);
        Check.due("the best has no lamps: miss(0)", x.miss(0), 1200);
        x.point(0, 0, 100000);
        Check.due("there is no best: scene()", x.scene(), 0);
        Check.due("there is no best: dim(0)", x.dim(0), LampChoice.NONE);
        Check.due("there is no best: miss(0)", x.miss(0), 1200);
    }

    /** "of all dims that one with which the sum .. is least .. (of several the least)": 0, so the first sweep changes nothing */
    private static void lampsWithoutPoints() {
        LampChoice x = new LampChoice();
        x.kind(9, 1, 1, 0);
        x.kind(10000, 500, 1, 0);
        for (int place = 0; place < 7; place++) {
            x.place(0, 0);
        }
        Check.due("no lamps, no points: scene()", x.scene(), 0);
        for (int place = 0; place < 7; place++) {
            x.hold(place, place % 2);
            Check.due("lamps up to " + place + ", no points: scene()", x.scene(), 1);
            Check.due("lamps up to " + place + ", no points: dim", x.dim(place), 0);
        }
        x.hold(3, LampChoice.NONE);
        Check.due("six lamps, no points: scene()", x.scene(), 1);
        Check.due("six lamps, no points: dim(3)", x.dim(3), LampChoice.NONE);
        x.point(0, 0, 0);
        Check.due("a point without an aim: scene()", x.scene(), 1);
        x.aim(0, 500);
        Check.due("a point with an aim: scene()", x.scene(), 2);
        Check.due("a point with an aim: dim(0)", x.dim(0), 50);
        for (int place = 0; place < 7; place++) {
            x.hold(place, LampChoice.NONE);
        }
        Check.due("no lamps, a point with an aim: scene()", x.scene(), 0);
        Check.due("no lamps, a point with an aim: miss(0)", x.miss(0), 50000);
    }

    private static void asItWouldComeNow() {
        LampChoice x = lampOf200();
        x.aim(0, 100);
        Check.due("now: dim(0)", x.dim(0), 50);
        x.aim(0, 110);
        Check.due("another aim: dim(0)", x.dim(0), 55);
        Check.due("another aim: miss(0)", x.miss(0), 0);
        x.height(10);
        Check.due("another height: dim(0)", x.dim(0), 100);
        Check.due("another height: miss(0)", x.miss(0), 11000 - 5000);
        x.run(5);
        x.daylight(0, 50);
        Check.due("days are nothing to scenes", x.miss(0), 6000);
    }

    private static void wrongArguments() {
        LampChoice x = lampOf200();
        for (int bad : Check.outside(0, 0)) {
            Check.argument("dim(" + bad + ")", () -> x.dim(bad));
            Check.argument("miss(" + bad + ")", () -> x.miss(bad));
        }
    }
}
