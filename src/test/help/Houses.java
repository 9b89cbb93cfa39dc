/** Houses that are much like real ones, for tests that compare all that can be seen of them. */
final class Houses {
    private Houses() { }

    static void empty(LightHours x) {
        x.worth();
    }

    /** Two or three of each kind, room for more of each, and an earlier time of it kept. */
    static void ordinary(LightHours x) {
        x.room(50);
        x.room(100);
        x.sheet(400, 13, 5, 0);
        x.sheet(300, 3, 4, 1);
        x.sheet(20, 15, 9, 2);
        x.reading(0, 2, 30);
        x.keep();
        x.reading(1, 4, 0);
        x.sisters(0, 1);
        x.past(0, 10, 90);
        x.past(2, 21, 30);
        x.show(0, 0, 2);
        x.lend(0, 5, 40);
        x.show(1, 1, 6);
        x.cancel(1);
        x.thread(0, 3, 3);
        x.thread(1, 0, 2);
        x.wall(0, 4, 0);
        x.wall(1, 4, 1);
        x.worth();
    }

    /** As many of each kind as may be, and an earlier time of it kept. */
    static void full(LightHours x) {
        roomsAndSheetsOfFull(x);
        x.keep();
        bookingsOfFull(x);
        threadsAndWallsOfFull(x);
        x.worth();
    }

    private static void roomsAndSheetsOfFull(LightHours x) {
        x.room(200);
        x.room(100);
        x.room(50);
        x.room(1);
        x.reading(0, 0, 200);
        x.reading(0, 1, 0);
        x.reading(1, 9, 33);
        x.reading(3, 3, 1);
        x.sheet(2000, 15, 9, 0);
        x.sheet(1, 1, 1, 3);
        x.sheet(500, 6, 5, 1);
        x.sheet(300, 9, 4, 2);
        x.sheet(2000, 15, 7, 0);
        x.sheet(50, 2, 3, 0);
        x.sheet(1000, 4, 8, 1);
        x.sheet(10, 8, 2, 0);
    }

    private static void bookingsOfFull(LightHours x) {
        x.sisters(0, 4);
        x.sisters(3, 2);
        x.show(1, 0, 0);
        x.show(0, 0, 1);
        x.show(0, 1, 9);
        x.show(2, 2, 5);
        x.show(6, 1, 7);
        x.lend(0, 4, 500);
        x.lend(4, 0, 1);
        x.lend(3, 8, 100);
        for (int booking = 8; booking < 30; booking++) {
            x.lend(booking % 2 == 0 ? 4 : 6, booking % 10, booking);
        }
        x.cancel(2);
        x.cancel(6);
        x.cancel(29);
    }

    private static void threadsAndWallsOfFull(LightHours x) {
        x.past(0, 10, 60);
        x.past(2, 100, 200);
        x.past(6, 0, 100);
        x.past(7, 5, 9);
        x.reading(2, 5, 25);
        x.thread(0, 0, 2);
        x.thread(0, 4, 6);
        x.thread(2, 9, 5);
        x.thread(7, 0, 1);
        for (int thread = 4; thread < 10; thread++) {
            x.thread(thread % 8, thread - 2, thread % 8);
        }
        x.thread(3, 8, 3);
        // The last THREAD and the last WALL can be told from others by the answers, so that one written over them shows.
        x.thread(2, 4, 4);
        x.wall(0, 2, 0);
        x.wall(1, 2, 1);
        x.wall(3, 1, 0);
        x.wall(3, 1, 0);
        x.wall(3, 1, 1);
    }
}
