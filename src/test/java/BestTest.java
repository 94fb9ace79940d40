/** Promises 8 to 11: best, lamp, level, even. */
final class BestTest {
    private BestTest() {
    }

    public static void main(String[] args) {
        fewestWatts();
        enough();
        mostEven();
        lesserKindFirst();
        evennessOfNothing();
        noChoice();
        newsChangesTheBest();
        askedFirst();
        strongestLights();
        wrongArguments();
        Check.end("BestTest");
    }

    private static void fewestWatts() {
        LampChoice x = new LampChoice();
        x.kind(90, 30, 1, 0);
        x.kind(45, 14, 1, 0);
        x.place(0, 0);
        x.place(0, 0);
        x.point(0, 0, 10000);
        Check.due("two small lamps", x.best(), 28);
        Check.due("lamp(0)", x.lamp(0), 1);
        Check.due("lamp(1)", x.lamp(1), 1);
        Check.due("level(0)", x.level(0), 10000);
        Check.due("one point alone is even: above", x.even(0), 1);
        Check.due("one point alone is even: below", x.even(1), 1);
        x.hold(1, LampChoice.NONE);
        Check.due("one large lamp", x.best(), 30);
        Check.due("lamp(0)", x.lamp(0), 0);
        Check.due("lamp(1)", x.lamp(1), LampChoice.NONE);
        x.kind(90, 29, 1, 0);
        Check.due("a thriftier kind", x.best(), 29);
        Check.due("lamp(0)", x.lamp(0), 2);
    }

    private static void enough() {
        LampChoice x = new LampChoice();
        x.kind(9, 5, 1, 0);
        x.place(0, 0);
        x.point(0, 0, 1000);
        Check.due("just the wanted level", x.best(), 5);
        LampChoice y = new LampChoice();
        y.kind(9, 5, 1, 0);
        y.place(0, 0);
        y.point(0, 0, 1001);
        Check.due("one less", y.best(), LampChoice.NO);
        LampChoice z = new LampChoice();
        z.kind(9, 5, 1, 0);
        z.place(0, 0);
        z.point(0, 0, 0);
        Check.due("nothing is wanted", z.best(), 0);
        Check.due("nothing is there", z.lamp(0), LampChoice.NONE);
        z.point(50, 50, 1);
        Check.due("enough at each point", z.best(), 5);
    }

    private static void mostEven() {
        LampChoice x = new LampChoice();
        x.kind(90, 10, 1, 0);
        x.place(2, 0);
        x.place(0, 0);
        x.point(0, 0, 3000);
        x.point(4, 0, 3000);
        Check.due("ten watts", x.best(), 10);
        Check.due("in the middle", x.lamp(0), 0);
        Check.due("not at the side", x.lamp(1), LampChoice.NONE);
        Check.due("level(0)", x.level(0), 6923);
        Check.due("level(1)", x.level(1), 6923);
        Check.due("even(0)", x.even(0), 1);
        Check.due("even(1)", x.even(1), 1);
        x.hold(0, LampChoice.NONE);
        Check.due("at the side", x.lamp(1), 0);
        Check.due("7200 by 13600: above", x.even(0), 9);
        Check.due("7200 by 13600: below", x.even(1), 17);
    }

    private static void lesserKindFirst() {
        LampChoice x = new LampChoice();
        x.kind(9, 5, 1, 0);
        x.kind(18, 5, 1, 0);
        x.place(0, 0);
        x.place(2, 0);
        x.point(1, 0, 100);
        Check.due("five watts", x.best(), 5);
        Check.due("NONE before 0 at the first place", x.lamp(0), LampChoice.NONE);
        Check.due("0 before 1 at the second", x.lamp(1), 0);
        x.hold(1, LampChoice.NONE);
        Check.due("0 before 1 at the first place", x.lamp(0), 0);
    }

    private static void evennessOfNothing() {
        LampChoice x = new LampChoice();
        x.kind(1, 5, 1, 0);
        x.place(0, 0);
        x.hold(0, 0);
        Check.due("without points: best", x.best(), 5);
        Check.due("without points: above", x.even(0), 0);
        Check.due("without points: below", x.even(1), 1);
        x.point(50, 50, 0);
        Check.due("all levels 0: level", x.level(0), 0);
        Check.due("all levels 0: above", x.even(0), 0);
        Check.due("all levels 0: below", x.even(1), 1);
        x.point(0, 0, 0);
        Check.due("one level 0: level", x.level(1), 111);
        Check.due("one level 0: above", x.even(0), 0);
        Check.due("one level 0: below", x.even(1), 1);
    }

    private static void noChoice() {
        LampChoice x = new LampChoice();
        x.place(0, 0);
        x.point(0, 0, 1);
        Check.due("no kinds: best", x.best(), LampChoice.NO);
        Check.due("no kinds: lamp", x.lamp(0), LampChoice.NO);
        Check.due("no kinds: level", x.level(0), LampChoice.NO);
        Check.due("no kinds: above", x.even(0), LampChoice.NO);
        Check.due("no kinds: below", x.even(1), LampChoice.NO);
        x.kind(9, 5, 1, 0);
        Check.due("a kind: best", x.best(), 5);
        Check.due("a kind: lamp", x.lamp(0), 0);
        x.hold(0, LampChoice.NONE);
        Check.due("held to NONE: best", x.best(), LampChoice.NO);
        Check.due("held to NONE: lamp", x.lamp(0), LampChoice.NO);
    }

    private static void newsChangesTheBest() {
        LampChoice x = new LampChoice();
        x.kind(9, 5, 1, 0);
        x.place(0, 0);
        Check.due("without points", x.best(), 0);
        x.point(3, 0, 500);
        Check.due("with a point", x.best(), 5);
        x.height(4);
        Check.due("too high", x.best(), LampChoice.NO);
        x.place(3, 0);
        Check.due("with another place", x.best(), 5);
        Check.due("there it is", x.lamp(1), 0);
        x.kind(9, 4, 1, 0);
        Check.due("with another kind", x.best(), 4);
        Check.due("it is that one", x.lamp(1), 1);
    }

    /** Each call finds the best choice by itself after news, not just best(). */
    private static void askedFirst() {
        LampChoice x = new LampChoice();
        x.kind(9, 5, 1, 0);
        x.place(0, 0);
        x.point(0, 0, 1000);
        Check.due("first of all: lamp", x.lamp(0), 0);
        x.height(2);
        Check.due("first of all: level", x.level(0), 2250);
        x.point(0, 2, 0);
        Check.due("first of all: 2 * 1125 by 3375, above", x.even(0), 2);
        x.point(0, 2, 0);
        Check.due("first of all: 3 * 1125 by 4500, below", x.even(1), 4);
        x.height(5);
        Check.due("first of all: none is enough", x.even(1), LampChoice.NO);
    }

    private static void strongestLights() {
        LampChoice x = new LampChoice();
        x.kind(10000, 500, 1, 0);
        x.kind(9999, 500, 1, 0);
        x.height(1);
        for (int place = 0; place < 7; place++) {
            x.place(7, 7);
            x.hold(place, place == 6 ? LampChoice.NO : 0);
        }
        for (int point = 0; point < 15; point++) {
            x.point(7, 7, 100000);
        }
        x.point(7, 8, 100000);
        x.hold(6, 0);
        Check.due("best", x.best(), 3500);
        Check.due("level(0)", x.level(0), 70000000);
        Check.due("level(15)", x.level(15), 35000000);
        Check.due("16 * 35 by 15 * 70 + 35: above", x.even(0), 16);
        Check.due("16 * 35 by 15 * 70 + 35: below", x.even(1), 31);
    }

    private static void wrongArguments() {
        LampChoice x = new LampChoice();
        x.place(0, 0);
        x.point(0, 0, 5);
        x.point(0, 0, 5);
        for (int bad : Check.outside(0, 0)) {
            Check.argument("lamp(" + bad + ")", () -> x.lamp(bad));
        }
        for (int bad : Check.outside(0, 1)) {
            Check.argument("level(" + bad + ")", () -> x.level(bad));
            Check.argument("even(" + bad + ")", () -> x.even(bad));
        }
    }
}
