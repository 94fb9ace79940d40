import com.sun.management.ThreadMXBean;
import java.lang.management.ManagementFactory;

/** "An object is used for at most 512 calls": the dearest of them, what they make, and two objects at once. */
final class ManyCallsTest {
    private static final int CALLS = 512;
    /** The calls that tell kinds, places and points. */
    private static final int TOLD = 3 + 7 + 16;
    /** Less than one small object in every second call; the Java machine itself may make one now and then. */
    private static final long FEW_BYTES = CALLS * 8;
    private static final long BYTES_OF_A_ROOM = 10000;

    private ManyCallsTest() {
    }

    public static void main(String[] args) {
        dearestChoices();
        dearestScenes();
        dearestRuns();
        callsMakeNothing();
        objectsAreSmall();
        twoObjectsAtOnce();
        Check.end("ManyCallsTest");
    }

    /** Kinds alike, places alike, five lamps needed at height 3: the search can leave out little. */
    private static LampChoice manyEquals() {
        LampChoice x = new LampChoice();
        for (int kind = 0; kind < 3; kind++) {
            x.kind(9, 500, 1, 1);
        }
        for (int place = 0; place < 7; place++) {
            x.place(20, 20);
        }
        for (int point = 0; point < 16; point++) {
            x.point(20, 20, 5000);
        }
        return x;
    }

    private static void dearestChoices() {
        LampChoice x = manyEquals();
        for (int call = TOLD; call < CALLS; call += 2) {
            x.height(3);
            Check.due("call " + call + ": best()", x.best(), 2500);
        }
    }

    /** Seven lamps in a row, which give way to one another slowly. */
    private static void dearestScenes() {
        LampChoice x = new LampChoice();
        x.height(10);
        x.kind(100, 1, 1, 0);
        for (int place = 0; place < 7; place++) {
            x.place(10 + place, 10);
            x.hold(place, 0);
        }
        for (int point = 0; point < 16; point++) {
            x.point(2 + 2 * point, 10, 0);
            x.aim(point, 600 + 128 * point);
        }
        for (int call = TOLD + 7 + 16; call < CALLS; call += 2) {
            Check.due("call " + call + ": aim(0, 600)", x.aim(0, 600), 600);
            Check.due("call " + call + ": scene()", x.scene(), 20);
        }
    }

    private static void dearestRuns() {
        LampChoice x = Rooms.inUse(3, 7, 16);
        int before = x.run(1);
        for (int run = 1; run < 100; run++) {
            x.step(1);
            Check.due("run " + run, x.run(10000), before + 10000 * run);
        }
    }

    /** 16 calls a round that answer, none that is refused: an exception is an object. */
    private static long manyCalls(LampChoice x) {
        long sum = 0;
        for (int round = 0; round < (CALLS - TOLD) / 16; round++) {
            sum += x.height(3 + round % 2) + x.best() + x.lamp(0) + x.level(0) + x.even(0);
            x.hold(6, round % 2 - 2);
            x.sensor(6, round % 3 - 1);
            sum += x.light(0, 1, 2) + x.aim(3, 500 * round) + x.scene() + x.dim(6) + x.miss(3);
            sum += x.daylight(0, 100 * round) + x.run(100) + x.own(6, 1) + x.used(0);
        }
        return sum;
    }

    private static long bytesSoFar() {
        return ((ThreadMXBean) ManagementFactory.getThreadMXBean()).getCurrentThreadAllocatedBytes();
    }

    private static void callsMakeNothing() {
        // The first time the machine loads what it needs.
        long first = manyCalls(manyEquals());
        bytesSoFar();
        LampChoice x = manyEquals();
        long before = bytesSoFar();
        long again = manyCalls(x);
        long made = bytesSoFar() - before;
        Check.due("the same calls, the same answers", again, first);
        Check.dueText("bytes made by calls: " + made + ", few", "" + (made < FEW_BYTES), "true");
    }

    private static void objectsAreSmall() {
        new LampChoice();
        long before = bytesSoFar();
        LampChoice x = new LampChoice();
        long made = bytesSoFar() - before;
        Check.dueText("bytes of a new object: " + made + ", few", "" + (made < BYTES_OF_A_ROOM), "true");
        Check.due("a new object's best()", x.best(), 0);
    }

    /** What one object is told, another one does not hear. */
    private static void twoObjectsAtOnce() {
        LampChoice x = new LampChoice();
        LampChoice y = new LampChoice();
        Check.due("x.kind", x.kind(9, 5, 1, 13), 0);
        Check.due("y.kind", y.kind(18, 6, 2, 14), 0);
        Check.due("x.place", x.place(0, 0), 0);
        Check.due("y.place", y.place(1, 1), 0);
        Check.due("x.point", x.point(0, 0, 1000), 0);
        Check.due("y.point", y.point(1, 1, 2000), 0);
        Check.due("x.best", x.best(), 5);
        Check.due("y.best", y.best(), 6);
        Check.due("x.aim", x.aim(0, 300), 0);
        Check.due("y.aim", y.aim(0, 1000), 0);
        Check.due("x.dim", x.dim(0), 30);
        Check.due("y.dim", y.dim(0), 50);
        Check.due("x.run", x.run(61), 61);
        Check.due("y.run", y.run(3), 3);
        Check.due("y.own", y.own(0, 0), 30);
        Check.due("x.used(1)", x.used(1), 13);
        Check.due("y.used(1)", y.used(1), 0);
        y.height(2);
        Check.due("x.own", x.own(0, 0), 100);
        Check.due("y.own after its news", y.own(0, 0), 0);
        Check.due("x.level", x.level(0), 1000);
        Check.due("y.level", y.level(0), 4500);
    }
}
