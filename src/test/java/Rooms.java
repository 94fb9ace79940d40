/** Rooms for tests, and all that a room tells of itself. */
final class Rooms {
    private Rooms() {
    }

    /** hold as a call that answers. */
    static long hold(LampChoice x, int place, int kind) {
        x.hold(place, kind);
        return 0;
    }

    /** sensor as a call that answers. */
    static long sensor(LampChoice x, int place, int point) {
        x.sensor(place, point);
        return 0;
    }

    /** One lamp of 7 watts whose light for the one point is 100; life 1 hour, 13 cents. */
    static LampChoice lampOf100(int wanted) {
        LampChoice x = new LampChoice();
        x.height(10);
        x.kind(10, 7, 1, 13);
        x.place(20, 20);
        x.hold(0, 0);
        x.point(20, 20, wanted);
        return x;
    }

    /** A room of these numbers (1, 3 and 2 at least) in which all was told and lamps have been made new. */
    static LampChoice inUse(int kinds, int places, int points) {
        LampChoice x = new LampChoice();
        x.height(4);
        for (int kind = 0; kind < kinds; kind++) {
            x.kind(200 - 50 * kind, 20 - 4 * kind, 1 + kind, 13 + kind);
        }
        for (int place = 0; place < places; place++) {
            x.place(5 * place, 3 * place % 11);
        }
        for (int point = 0; point < points; point++) {
            x.point(2 * point, point * point % 13, 1400 + 10 * point);
            x.aim(point, 3000 - 100 * point);
            x.daylight(point, 20 * point);
        }
        x.hold(0, 0);
        x.hold(1, LampChoice.NONE);
        x.hold(places - 1, kinds - 1);
        x.sensor(0, 1);
        x.sensor(places - 1, points - 1);
        x.step(7);
        x.run(130);
        x.scene();
        return x;
    }

    /** What a room tells; the asking changes the room at last, so a room is asked but once. */
    static String report(LampChoice x, int places, int points) {
        StringBuilder text = new StringBuilder();
        tellChoice(text, x, places, points);
        tellScene(text, x, places, points);
        tellDays(text, x, places);
        text.append(" minutes ").append(x.run(3));
        tellDays(text, x, places);
        text.append(" step ").append(x.step(50));
        for (int point = 0; point < points; point++) {
            text.append(" aim ").append(x.aim(point, 0)).append(" daylight ").append(x.daylight(point, 0));
        }
        text.append(" height ").append(x.height(5)).append(" minutes ").append(x.run(30));
        tellDays(text, x, places);
        text.append(" kind ").append(Check.outcome(() -> x.kind(1, 1, 1, 1)));
        text.append(" place ").append(Check.outcome(() -> x.place(1, 1)));
        text.append(" point ").append(Check.outcome(() -> x.point(1, 1, 1)));
        return text.toString();
    }

    private static void tellChoice(StringBuilder text, LampChoice x, int places, int points) {
        text.append(" best ").append(x.best());
        for (int place = 0; place < places; place++) {
            text.append(" lamp ").append(x.lamp(place));
        }
        for (int point = 0; point < points; point++) {
            text.append(" level ").append(x.level(point));
            text.append(" light ").append(x.light(0, point % places, point));
        }
        text.append(" even ").append(x.even(0)).append('/').append(x.even(1));
    }

    private static void tellScene(StringBuilder text, LampChoice x, int places, int points) {
        text.append(" scene ").append(x.scene());
        for (int place = 0; place < places; place++) {
            text.append(" dim ").append(x.dim(place));
        }
        for (int point = 0; point < points; point++) {
            text.append(" miss ").append(x.miss(point));
        }
    }

    private static void tellDays(StringBuilder text, LampChoice x, int places) {
        for (int place = 0; place < places; place++) {
            text.append(" own ").append(x.own(place, 0)).append(' ').append(x.own(place, 1));
        }
        text.append(" used ").append(x.used(0)).append(' ').append(x.used(1)).append(' ').append(x.used(2));
    }
}
