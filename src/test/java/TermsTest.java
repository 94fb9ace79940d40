/** The document's Terms, sentence by sentence, at the edges that they name. */
final class TermsTest {
    private TermsTest() {
    }

    public static void main(String[] args) {
        lightIsRoundedDown();
        allAtTheSameHeight();
        levelIsTheSumOfAllLights();
        heldPlacesHaveThat();
        enoughIsTheWantedLevelOrMore();
        evennessOfNothing();
        evennessInLeastTerms();
        fewestWattsComeFirst();
        thenTheMostEven();
        thenTheLesserKind();
        withoutABestChoiceThereAreNoLamps();
        ofSeveralDimsTheLeast();
        dimsEndAt0And100();
        scenesBeginWithAllDims0();
        untilOneSweepChangesNothing();
        twentySweepsAtMost();
        noFurtherThanStep();
        needIs100WithoutASensor();
        needIsTheLeastLevel();
        needIs100IfNoLevelIsEnough();
        needCountsOnlyItsOwnLight();
        levelTimesWatts();
        burntAfterItsLife();
        burntInTheDark();
        anyLevelAbove0Wears();
        allLampsGo();
        burntLampsGoUnpaid();
        Check.end("TermsTest");
    }

    /** "1000 times the strength, by (..), rounded down" */
    private static void lightIsRoundedDown() {
        LampChoice x = new LampChoice();
        x.kind(7, 1, 1, 0);
        x.kind(8, 1, 1, 0);
        x.kind(15, 1, 1, 0);
        x.height(50);
        x.place(0, 50);
        x.point(50, 0, 0);
        Check.due("7000 by 7500", x.light(0, 0, 0), 0);
        Check.due("8000 by 7500", x.light(1, 0, 0), 1);
        Check.due("15000 by 7500", x.light(2, 0, 0), 2);
        x.height(49);
        Check.due("15000 by 7401", x.light(2, 0, 0), 2);
        x.height(1);
        Check.due("15000 by 5001", x.light(2, 0, 0), 2);
    }

    /** "all at the same HEIGHT": places told before it and after it */
    private static void allAtTheSameHeight() {
        LampChoice x = new LampChoice();
        x.kind(10, 1, 1, 0);
        x.place(0, 0);
        x.point(0, 0, 0);
        Check.due("3 at first", x.light(0, 0, 0), 1111);
        x.height(10);
        x.place(0, 0);
        x.point(0, 0, 0);
        for (int place = 0; place < 2; place++) {
            for (int point = 0; point < 2; point++) {
                Check.due("height 10: light(0, " + place + ", " + point + ")", x.light(0, place, point), 100);
            }
        }
    }

    /** "Its LEVEL at a point is the sum of the lights of all lamps": each rounded down by itself */
    private static void levelIsTheSumOfAllLights() {
        LampChoice x = new LampChoice();
        x.kind(10, 1, 1, 0);
        x.kind(20, 2, 1, 0);
        x.kind(30, 4, 1, 0);
        for (int place = 0; place < 4; place++) {
            x.place(place, 0);
            x.hold(place, place < 3 ? place : LampChoice.NONE);
        }
        x.point(0, 0, 0);
        x.point(3, 4, 0);
        Check.due("three lamps: best()", x.best(), 7);
        Check.due("1111 and 2000 and 2307", x.level(0), 1111 + 2000 + 2307);
        Check.due("294 and 689 and 1153", x.level(1), 294 + 689 + 1153);
        x.hold(2, LampChoice.NONE);
        Check.due("two lamps: level(0)", x.level(0), 1111 + 2000);
        LampChoice y = new LampChoice();
        y.kind(1, 1, 1, 0);
        y.height(50);
        for (int place = 0; place < 7; place++) {
            y.place(0, 0);
            y.hold(place, 0);
        }
        y.point(0, 0, 0);
        Check.due("seven times 1000 by 2500", y.level(0), 0);
    }

    /** Two places just above a point; each lamp of the first kind gives 1000 there, of the second 2000. */
    private static LampChoice twoPlaces(int wanted) {
        LampChoice x = new LampChoice();
        x.kind(9, 5, 1, 0);
        x.kind(18, 6, 1, 0);
        x.place(0, 0);
        x.place(0, 0);
        x.point(0, 0, wanted);
        return x;
    }

    private static void dueLamps(String name, LampChoice x, int watts, int... lamps) {
        Check.due(name + ": best()", x.best(), watts);
        for (int place = 0; place < lamps.length; place++) {
            Check.due(name + ": lamp(" + place + ")", x.lamp(place), lamps[place]);
        }
    }

    /** "A place may be HELD: to a kind, or to NONE; then it has that." */
    private static void heldPlacesHaveThat() {
        LampChoice x = twoPlaces(2000);
        dueLamps("nothing is held", x, 6, LampChoice.NONE, 1);
        x.hold(0, 0);
        dueLamps("held to the weak kind, though it is not needed", x, 10, 0, 0);
        x.hold(0, 1);
        dueLamps("held to the strong kind", x, 6, 1, LampChoice.NONE);
        x.hold(1, LampChoice.NONE);
        dueLamps("the other one held to NONE", x, 6, 1, LampChoice.NONE);
        x.hold(0, LampChoice.NONE);
        dueLamps("both held to NONE", x, LampChoice.NO, LampChoice.NO, LampChoice.NO);
        x.hold(1, 0);
        dueLamps("one held to a kind that is too weak", x, LampChoice.NO, LampChoice.NO, LampChoice.NO);
        x.hold(0, LampChoice.NO);
        dueLamps("the other one is held to nothing", x, 10, 0, 0);
        x.hold(1, LampChoice.NO);
        dueLamps("nothing is held again", x, 6, LampChoice.NONE, 1);
    }

    /** "It is ENOUGH if at each point the level is the wanted one, or more." */
    private static void enoughIsTheWantedLevelOrMore() {
        dueLamps("0 is wanted", twoPlaces(0), 0, LampChoice.NONE, LampChoice.NONE);
        dueLamps("1 is wanted", twoPlaces(1), 5, LampChoice.NONE, 0);
        dueLamps("1000 is wanted", twoPlaces(1000), 5, LampChoice.NONE, 0);
        dueLamps("1001 is wanted", twoPlaces(1001), 6, LampChoice.NONE, 1);
        dueLamps("2000 is wanted", twoPlaces(2000), 6, LampChoice.NONE, 1);
        dueLamps("2001 is wanted", twoPlaces(2001), 11, 0, 1);
        dueLamps("3000 is wanted", twoPlaces(3000), 11, 0, 1);
        dueLamps("3001 is wanted", twoPlaces(3001), 12, 1, 1);
        dueLamps("4000 is wanted", twoPlaces(4000), 12, 1, 1);
        dueLamps("4001 is wanted", twoPlaces(4001), LampChoice.NO, LampChoice.NO, LampChoice.NO);
        LampChoice x = twoPlaces(1000);
        x.point(0, 0, 4000);
        dueLamps("one point wants all", x, 12, 1, 1);
        x.point(0, 0, 4001);
        dueLamps("one point wants too much", x, LampChoice.NO, LampChoice.NO, LampChoice.NO);
    }

    private static void dueEven(String name, LampChoice x, long above, long below) {
        Check.due(name + ": even(0)", x.even(0), above);
        Check.due(name + ": even(1)", x.even(1), below);
    }

    /** "0 / 1 without points, or if all levels are 0" */
    private static void evennessOfNothing() {
        LampChoice x = new LampChoice();
        dueEven("nothing at all", x, 0, 1);
        x.kind(1, 1, 1, 0);
        x.place(0, 0);
        x.hold(0, 0);
        dueEven("a lamp without points", x, 0, 1);
        x.point(50, 50, 0);
        x.point(50, 49, 0);
        Check.due("a lamp too far: level(0)", x.level(0), 0);
        dueEven("a lamp too far: all levels are 0", x, 0, 1);
        x.hold(0, LampChoice.NO);
        dueEven("no lamp: all levels are 0", x, 0, 1);
        x.hold(0, 0);
        x.point(0, 0, 0);
        dueEven("one level is above 0", x, 0, 1);
    }

    /** "the least level of a point times how many points there are, by the sum of all levels" */
    private static void evennessInLeastTerms() {
        LampChoice x = new LampChoice();
        x.kind(90, 10, 1, 0);
        x.place(0, 0);
        x.point(0, 0, 1);
        dueEven("10000 by 10000", x, 1, 1);
        x.point(4, 0, 1);
        dueEven("7200 by 13600", x, 9, 17);
        x.point(4, 0, 1);
        dueEven("10800 by 17200", x, 27, 43);
        LampChoice y = new LampChoice();
        y.kind(9, 10, 1, 0);
        y.place(0, 0);
        y.hold(0, 0);
        for (int point = 0; point < 16; point++) {
            y.point(0, 0, 0);
        }
        dueEven("16000 by 16000", y, 1, 1);
        LampChoice z = new LampChoice();
        z.kind(8, 10, 1, 0);
        z.height(50);
        z.place(0, 0);
        z.point(50, 50, 1);
        Check.due("the least level above 0", z.level(0), 1);
        dueEven("1 by 1", z, 1, 1);
        z.point(50, 50, 0);
        dueEven("2 by 2", z, 1, 1);
        z.point(49, 49, 1);
        z.point(0, 0, 1);
        Check.due("1, 1, 1 and 3", z.level(3), 3);
        dueEven("4 by 6", z, 2, 3);
    }

    /** "of those that are enough the one with the fewest watts together": also if it is less even */
    private static void fewestWattsComeFirst() {
        LampChoice x = new LampChoice();
        x.kind(60, 6, 1, 0);
        x.kind(90, 11, 1, 0);
        x.place(0, 0);
        x.place(4, 0);
        x.point(0, 0, 3000);
        x.point(4, 0, 3000);
        dueLamps("11 watts, less even than 12", x, 11, LampChoice.NONE, 1);
        dueEven("11 watts, less even than 12", x, 9, 17);
        LampChoice y = new LampChoice();
        y.kind(60, 6, 1, 0);
        y.kind(90, 12, 1, 0);
        y.place(0, 0);
        y.place(4, 0);
        y.point(0, 0, 3000);
        y.point(4, 0, 3000);
        dueLamps("12 watts, as many as the more even ones", y, 12, 0, 0);
        dueEven("12 watts, as many as the more even ones", y, 1, 1);
    }

    /** "of these the most even": also if its kind is not the lesser one */
    private static void thenTheMostEven() {
        LampChoice x = new LampChoice();
        x.kind(90, 10, 1, 0);
        x.place(2, 0);
        x.place(0, 0);
        x.point(0, 0, 1);
        x.point(4, 0, 1);
        dueLamps("in the middle", x, 10, 0, LampChoice.NONE);
        LampChoice y = new LampChoice();
        y.kind(1, 10, 1, 0);
        y.kind(90, 10, 1, 0);
        y.place(0, 0);
        y.point(0, 0, 1);
        y.point(4, 4, 1);
        Check.due("1000 by 41", y.light(0, 0, 1), 24);
        Check.due("90000 by 41", y.light(1, 0, 1), 2195);
        dueLamps("48 by 135 and 4390 by 12195: the latter is more", y, 10, 1);
    }

    /** "of these the one with the lesser kind (NONE before 0) at the first place at which they differ" */
    private static void thenTheLesserKind() {
        LampChoice x = new LampChoice();
        x.kind(9, 5, 1, 0);
        x.kind(18, 5, 1, 0);
        x.place(0, 0);
        x.point(0, 0, 1);
        x.point(3, 0, 1);
        dueLamps("1000 by 1500 and 2000 by 3000", x, 5, 0);
        dueEven("1000 by 1500 and 2000 by 3000", x, 2, 3);
        dueLamps("0, 1 before 1, 0", twoPlaces(3000), 11, 0, 1);
        LampChoice y = twoPlaces(3000);
        y.place(0, 0);
        dueLamps("NONE, 0, 1 before all others", y, 11, LampChoice.NONE, 0, 1);
        y.hold(1, 1);
        dueLamps("NONE, 1, 0 if the second is held", y, 11, LampChoice.NONE, 1, 0);
        y.hold(0, 0);
        dueLamps("0, 1, NONE if the first is held too", y, 11, 0, 1, LampChoice.NONE);
    }

    /** "if there is none, there are no lamps"; "NO without one"; "NONE without a lamp there"; "0 without lamps" */
    private static void withoutABestChoiceThereAreNoLamps() {
        LampChoice x = twoPlaces(1000);
        x.aim(0, 250);
        x.run(61);
        long used = x.used(0);
        x.point(0, 0, 4001);
        dueLamps("no choice", x, LampChoice.NO, LampChoice.NO, LampChoice.NO);
        dueEven("no choice", x, LampChoice.NO, LampChoice.NO);
        Check.due("no choice: level(0)", x.level(0), LampChoice.NO);
        Check.due("no choice: scene()", x.scene(), 0);
        Check.due("no choice: dim(1)", x.dim(1), LampChoice.NONE);
        Check.due("no choice: miss(0)", x.miss(0), 25000);
        Check.due("no choice: own(1, 0)", x.own(1, 0), LampChoice.NONE);
        Check.due("no choice: own(1, 1)", x.own(1, 1), LampChoice.NONE);
        Check.due("no choice: run(500)", x.run(500), 561);
        Check.due("no choice: used(0)", x.used(0), used);
        Check.due("no choice: used(2)", x.used(2), 1);
        x.hold(0, 1);
        x.hold(1, 1);
        dueLamps("held, but still too weak", x, LampChoice.NO, LampChoice.NO, LampChoice.NO);
        Check.due("held, but still too weak: scene()", x.scene(), 0);
        Check.due("held, but still too weak: own(0, 0)", x.own(0, 0), LampChoice.NONE);
        x.height(2);
        dueLamps("low enough", x, 12, 1, 1);
        Check.due("low enough: level(1)", x.level(1), 9000);
        Check.due("low enough: own(0, 0)", x.own(0, 0), 0);
    }

    /** "that one with which the sum of the squares of all misses is least .. (of several the least)" */
    private static void ofSeveralDimsTheLeast() {
        LampChoice x = Rooms.lampOf100(0);
        x.point(20, 20, 0);
        int[][] aimsAndDim = {{0, 0, 0}, {1, 0, 0}, {1, 1, 1}, {2, 1, 1}, {2, 2, 2}, {7, 8, 7}, {8, 8, 8}, {99, 100, 99}};
        for (int[] row : aimsAndDim) {
            x.aim(0, row[0]);
            x.aim(1, row[1]);
            Check.due("aims " + row[0] + ", " + row[1] + ": dim(0)", x.dim(0), row[2]);
            Check.due("aims " + row[0] + ", " + row[1] + ": miss(0)", x.miss(0), 100L * (row[0] - row[2]));
            Check.due("aims " + row[0] + ", " + row[1] + ": miss(1)", x.miss(1), 100L * (row[1] - row[2]));
        }
        LampChoice y = new LampChoice();
        y.kind(1, 1, 1, 0);
        y.place(0, 0);
        y.hold(0, 0);
        y.point(50, 50, 0);
        y.aim(0, 1000000);
        Check.due("all dims are as good without light: dim(0)", y.dim(0), 0);
        Check.due("all dims are as good without light: scene()", y.scene(), 1);
    }

    /** "Lamps have DIMS 0 .. 100." */
    private static void dimsEndAt0And100() {
        LampChoice x = Rooms.lampOf100(0);
        int[][] aimDimAndSweeps = {{0, 0, 1}, {1, 1, 2}, {99, 99, 2}, {100, 100, 2}, {101, 100, 2}, {1000000, 100, 2}};
        for (int[] row : aimDimAndSweeps) {
            x.aim(0, row[0]);
            Check.due("aim " + row[0] + ": dim(0)", x.dim(0), row[1]);
            Check.due("aim " + row[0] + ": scene()", x.scene(), row[2]);
            Check.due("aim " + row[0] + ": miss(0)", x.miss(0), 100L * (row[0] - row[1]));
        }
    }

    /** "A SCENE begins with all dims 0": not with those of the scene before */
    private static void scenesBeginWithAllDims0() {
        LampChoice x = Rooms.lampOf100(0);
        x.place(20, 20);
        x.hold(1, 0);
        x.aim(0, 150);
        Check.due("bright: dim(0)", x.dim(0), 100);
        Check.due("bright: dim(1)", x.dim(1), 50);
        x.aim(0, 60);
        Check.due("less bright: dim(0)", x.dim(0), 60);
        Check.due("less bright: dim(1)", x.dim(1), 0);
        Check.due("less bright: scene()", x.scene(), 2);
        Check.due("asked again: scene()", x.scene(), 2);
        Check.due("asked again: dim(0)", x.dim(0), 60);
        x.aim(0, 0);
        Check.due("dark: scene()", x.scene(), 1);
    }

    /** "sweeps go on until one changes nothing": that one counts too */
    private static void untilOneSweepChangesNothing() {
        LampChoice x = Rooms.lampOf100(0);
        x.aim(0, 0);
        Check.due("the first changes nothing", x.scene(), 1);
        x.aim(0, 50);
        Check.due("the second changes nothing", x.scene(), 2);
    }

    /**
     * "but 20 at most". Two lamps, lights 800 and 735 for the one point, 735 and 800 for the other: the first
     * lamp begins far too bright, and gives way to the second one in small steps.
     */
    private static void twentySweepsAtMost() {
        LampChoice x = new LampChoice();
        x.height(10);
        x.kind(100, 1, 1, 0);
        x.place(10, 10);
        x.place(11, 10);
        x.hold(0, 0);
        x.hold(1, 0);
        x.point(5, 10, 0);
        x.point(16, 10, 0);
        x.aim(0, 400);
        x.aim(1, 500);
        int[] slow = slowScene(400, 500, 20);
        Check.due("slow: the 21st sweep would still change", differ(slow, slowScene(400, 500, 21)), 1);
        Check.due("slow: scene()", x.scene(), 20);
        Check.due("slow: dim(0)", x.dim(0), slow[0]);
        Check.due("slow: dim(1)", x.dim(1), slow[1]);
        Check.due("slow: miss(0)", x.miss(0), 40000L - 800 * slow[0] - 735 * slow[1]);
    }

    private static int differ(int[] one, int[] other) {
        return one[0] == other[0] && one[1] == other[1] ? 0 : 1;
    }

    /** The dims of twentySweepsAtMost after some sweeps, by trying all of them. */
    private static int[] slowScene(int aim0, int aim1, int sweeps) {
        int[] dims = new int[2];
        for (int sweep = 0; sweep < sweeps; sweep++) {
            for (int lamp = 0; lamp < 2; lamp++) {
                int best = 0;
                long least = Long.MAX_VALUE;
                for (int dim = 0; dim <= 100; dim++) {
                    dims[lamp] = dim;
                    long one = 100L * aim0 - 800L * dims[0] - 735L * dims[1];
                    long other = 100L * aim1 - 735L * dims[0] - 800L * dims[1];
                    if (one * one + other * other < least) {
                        least = one * one + other * other;
                        best = dim;
                    }
                }
                dims[lamp] = best;
            }
        }
        return dims;
    }

    /** A lamp whose need is 100 less the daylight. */
    private static LampChoice followingLamp(int daylight) {
        LampChoice x = Rooms.lampOf100(100);
        x.sensor(0, 0);
        x.daylight(0, daylight);
        return x;
    }

    private static void dueLevels(String name, LampChoice x, int... levels) {
        for (int minute = 0; minute < levels.length; minute++) {
            x.run(1);
            Check.due(name + ", minute " + minute, x.own(0, 0), levels[minute]);
        }
    }

    /** "goes to its NEED, but no further than STEP .. from where it was" */
    private static void noFurtherThanStep() {
        LampChoice x = followingLamp(75);
        dueLevels("up to 25", x, 10, 20, 25, 25);
        x.daylight(0, 96);
        dueLevels("down to 4", x, 15, 5, 4, 4);
        x.daylight(0, 86);
        dueLevels("up by just STEP", x, 14, 14);
        x.daylight(0, 96);
        dueLevels("down by just STEP", x, 4, 4);
        x.daylight(0, 85);
        dueLevels("up by one more than STEP", x, 14, 15, 15);
        x.daylight(0, 96);
        dueLevels("down by one more than STEP", x, 5, 4, 4);
        x.step(1);
        x.daylight(0, 95);
        dueLevels("up by the least step", x, 5, 5);
        x.step(100);
        x.daylight(0, 0);
        dueLevels("up by the greatest step", x, 100, 100);
        x.daylight(0, 100);
        dueLevels("down by the greatest step", x, 0, 0);
        x.step(99);
        x.daylight(0, 0);
        dueLevels("up from 0 to 100 by 99", x, 99, 100, 100);
        x.daylight(0, 100);
        dueLevels("down from 100 to 0 by 99", x, 1, 0, 0);
    }

    /** "100 without a sensor" */
    private static void needIs100WithoutASensor() {
        LampChoice x = Rooms.lampOf100(0);
        x.daylight(0, 100000);
        x.step(100);
        dueLevels("no sensor yet", x, 100);
        x.sensor(0, 0);
        dueLevels("nothing is wanted at the sensor", x, 0);
        x.sensor(0, LampChoice.NONE);
        dueLevels("no sensor any more", x, 100);
    }

    /** "the least level v so that the daylight .. and its own light there times v by 100 (rounded down) are the wanted level" */
    private static void needIsTheLeastLevel() {
        LampChoice x = followingLamp(0);
        x.step(100);
        int[][] daylightAndNeed = {{0, 100}, {1, 99}, {50, 50}, {98, 2}, {99, 1}, {100, 0}, {101, 0}, {100000, 0}};
        for (int[] row : daylightAndNeed) {
            x.daylight(0, row[0]);
            dueLevels("light 100, daylight " + row[0], x, row[1]);
        }
        LampChoice y = new LampChoice();
        y.height(10);
        y.kind(15, 1, 1, 0);
        y.place(0, 0);
        y.point(0, 0, 150);
        y.sensor(0, 0);
        y.step(100);
        int[][] more = {{0, 100}, {1, 100}, {2, 99}, {148, 2}, {149, 1}, {150, 0}};
        for (int[] row : more) {
            y.daylight(0, row[0]);
            dueLevels("light 150, daylight " + row[0], y, row[1]);
        }
    }

    /** "100 if none is" */
    private static void needIs100IfNoLevelIsEnough() {
        LampChoice x = Rooms.lampOf100(150);
        x.place(20, 20);
        x.hold(1, 0);
        x.sensor(0, 0);
        x.step(100);
        int[][] daylightAndNeed = {{0, 100}, {49, 100}, {50, 100}, {51, 99}, {150, 0}, {49, 100}};
        for (int[] row : daylightAndNeed) {
            x.daylight(0, row[0]);
            dueLevels("light 100, 150 wanted, daylight " + row[0], x, row[1]);
        }
        LampChoice y = new LampChoice();
        y.kind(1, 1, 1, 0);
        y.place(0, 0);
        y.hold(0, 0);
        y.place(50, 50);
        y.kind(10000, 1, 1, 0);
        y.hold(1, 1);
        y.point(50, 50, 1);
        y.sensor(0, 0);
        y.step(100);
        Check.due("no light of its own there", y.light(0, 0, 0), 0);
        dueLevels("no light of its own there", y, 100);
        y.daylight(0, 1);
        dueLevels("no light of its own there, nor wanted", y, 0);
    }

    /** "its own light there": the other lamps' light does not help */
    private static void needCountsOnlyItsOwnLight() {
        LampChoice x = Rooms.lampOf100(150);
        x.place(20, 20);
        x.hold(1, 0);
        x.sensor(0, 0);
        x.sensor(1, 0);
        x.step(100);
        x.daylight(0, 120);
        dueLevels("two lamps, 30 lack", x, 30, 30);
        Check.due("two lamps, 30 lack: the other one", x.own(1, 0), 30);
    }

    /** "Then it uses its level times its watts." */
    private static void levelTimesWatts() {
        LampChoice x = followingLamp(100);
        x.run(10000);
        Check.due("dark minutes use nothing", x.used(0), 0);
        x.daylight(0, 85);
        x.run(1);
        Check.due("the level after the step counts", x.used(0), 10 * 7);
        x.run(2);
        Check.due("then its need", x.used(0), (10 + 15 + 15) * 7);
        x.daylight(0, 100);
        x.run(1);
        Check.due("and on the way down", x.used(0), (10 + 15 + 15 + 5) * 7);
        x.run(1);
        Check.due("at 0 nothing", x.used(0), (10 + 15 + 15 + 5) * 7);
    }

    /** "as many minutes as 60 times its LIFE is BURNT: before its next such minute it is made new, for its CENTS" */
    private static void burntAfterItsLife() {
        LampChoice x = Rooms.lampOf100(0);
        x.run(59);
        dueWear("one minute before", x, 59, 0, 0);
        x.run(1);
        dueWear("burnt", x, 60, 0, 0);
        x.run(1);
        dueWear("made new", x, 1, 13, 1);
        Check.due("made new: the level stays", x.own(0, 0), 100);
        x.run(59);
        dueWear("burnt again", x, 60, 13, 1);
        x.run(61);
        dueWear("made new twice in a run", x, 1, 39, 3);
        x.run(9959);
        dueWear("burnt at the end of a run", x, 60, 13 * 168, 168);
    }

    private static void dueWear(String name, LampChoice x, int minutes, long paid, long renewed) {
        Check.due(name + ": own(0, 1)", x.own(0, 1), minutes);
        Check.due(name + ": used(1)", x.used(1), paid);
        Check.due(name + ": used(2)", x.used(2), renewed);
    }

    /** "before its next such minute": a minute at level 0 is none */
    private static void burntInTheDark() {
        LampChoice x = followingLamp(0);
        x.step(100);
        x.run(60);
        x.daylight(0, 100);
        x.run(10000);
        dueWear("burnt and dark", x, 60, 0, 0);
        Check.due("burnt and dark: own(0, 0)", x.own(0, 0), 0);
        x.daylight(0, 99);
        x.run(1);
        dueWear("the least light", x, 1, 13, 1);
        x.daylight(0, 100);
        x.run(1);
        dueWear("dark again", x, 1, 13, 1);
    }

    /** "A lamp that has had a level above 0": 1 wears as 100 does */
    private static void anyLevelAbove0Wears() {
        LampChoice x = followingLamp(99);
        x.run(60);
        dueWear("at level 1", x, 60, 0, 0);
        x.run(1);
        dueWear("at level 1, made new", x, 1, 13, 1);
        Check.due("at level 1: used(0)", x.used(0), 61 * 7);
    }

    /** One of the calls after which all lamps go. */
    private interface News {
        void tell(LampChoice x);
    }

    /** "Whenever a kind, a place, a point, a height, what is held, or a sensor is told, all lamps go .. also if the best choice is the same" */
    private static void allLampsGo() {
        goesWith("a kind", x -> x.kind(1, 500, 1, 0));
        goesWith("a place", x -> x.place(0, 0));
        goesWith("a point", x -> x.point(20, 20, 0));
        goesWith("the height that it has", x -> x.height(10));
        goesWith("what is held already", x -> x.hold(0, 0));
        goesWith("the other one is held", x -> x.hold(1, LampChoice.NONE));
        goesWith("the sensor that it has", x -> x.sensor(0, 0));
        goesWith("the other one's sensor", x -> x.sensor(1, LampChoice.NONE));
    }

    private static void goesWith(String name, News news) {
        LampChoice x = followingLamp(0);
        x.place(20, 20);
        x.run(121);
        long used = x.used(0);
        dueWear(name + ", before", x, 1, 26, 2);
        news.tell(x);
        Check.due(name + ": the lamp is the same", x.lamp(0), 0);
        Check.due(name + ": own(0, 0)", x.own(0, 0), 0);
        dueWear(name, x, 0, 26, 2);
        Check.due(name + ": used(0)", x.used(0), used);
        dueLevels(name, x, 10, 20);
        Check.due(name + ": minutes go on", x.run(1), 124);
    }

    /** A lamp that goes while it is burnt is not made new any more. */
    private static void burntLampsGoUnpaid() {
        LampChoice x = Rooms.lampOf100(0);
        x.run(60);
        x.height(10);
        x.run(60);
        dueWear("burnt, gone, burnt", x, 60, 0, 0);
        x.run(1);
        dueWear("burnt, gone, burnt, made new", x, 1, 13, 1);
    }
}
