/** Promises 20 to 26 of DOC.md: a test for each sentence that names a boundary case. */
public final class WallsTest {
    public static void main(String[] args) {
        Due.runAll(WallsTest.class);
    }

    /** ROOMS of WORST 50 and 100, and two SHEETS of LIMIT 1000 with all THEMES, VALUES 5 and 4, REST 0 and 1. */
    private static LightHours house() {
        LightHours x = new LightHours();
        x.room(50);
        x.room(100);
        x.sheet(1000, 15, 5, 0);
        x.sheet(1000, 15, 4, 1);
        return x;
    }

    private static LightHours withWalls(int count) {
        LightHours x = house();
        for (int wall = 0; wall < count; wall++) {
            x.wall(0, wall, 0);
        }
        return x;
    }

    // ---- Promise 20

    @Sentence(in = "Promise 20", says = "A WALL comes: its number.")
    private static void aWallAnswersItsNumber() {
        for (int there = 0; there < 5; there++) {
            LightHours x = withWalls(there);
            Due.is("wall(1, 9, 3) behind " + there, x.wall(1, 9, 3), there);
            Due.is("many(5)", x.many(5), there + 1);
            Due.is("hung of it", x.hung(there), 0);
        }
    }

    @Sentence(in = "Promise 20", says = "A WALL comes: its number.")
    private static void aWallLikeAnotherComesToo() {
        LightHours x = house();
        for (int wall = 0; wall < 5; wall++) {
            Due.is("wall(0, 0, 0)", x.wall(0, 0, 0), wall);
        }
        int[] due = {0, 1, Due.NONE, Due.NONE, Due.NONE};
        for (int wall = 0; wall < 5; wall++) {
            Due.is("hung(" + wall + ")", x.hung(wall), due[wall]);
        }
    }

    @Sentence(in = "Promise 20", says = "NUMBER: there is no such ROOM, YEAR, THEME")
    private static void aWallNeedsARoomAYearAndATheme() {
        for (int bad : new int[] {Due.MIN, -1, 2, 4, Due.MAX}) {
            Due.is("wall(" + bad + ", 0, 0)", house().wall(bad, 0, 0), Due.NUMBER);
        }
        for (int bad : new int[] {Due.MIN, -1, 10, Due.MAX}) {
            Due.is("wall(0, " + bad + ", 0)", house().wall(0, bad, 0), Due.NUMBER);
        }
        for (int bad : new int[] {Due.MIN, -1, 4, 8, Due.MAX}) {
            Due.is("wall(0, 0, " + bad + ")", house().wall(0, 0, bad), Due.NUMBER);
        }
    }

    @Sentence(in = "Promise 20", says = "FULL")
    private static void aSixthWallDoesNotCome() {
        LightHours x = withWalls(5);
        Due.is("wall(1, 9, 3)", x.wall(1, 9, 3), Due.FULL);
        Due.is("many(5)", x.many(5), 5);
        Due.is("worth()", x.worth(), 25);
        Due.is("hung(5)", x.hung(5), Due.NUMBER);
        x.strip();
        Due.is("wall(1, 9, 3) with one stripped", x.wall(1, 9, 3), 4);
        x.hang();
        Due.is("wall(0, 9, 3) when they are no more", x.wall(0, 9, 3), 0);
    }

    // ---- Promise 21

    @Sentence(in = "Promise 21", says = "The latest WALL is no more: how many there are.")
    private static void stripTakesTheLatestWall() {
        LightHours x = house();
        x.sheet(1000, 1, 9, 0);
        x.wall(0, 0, 0);
        x.wall(0, 0, 1);
        Due.is("hung(0)", x.hung(0), 2);
        Due.is("hung(1)", x.hung(1), 0);
        Due.is("strip()", x.strip(), 1);
        Due.is("hung(0)", x.hung(0), 2);
        Due.is("hung(1)", x.hung(1), Due.NUMBER);
        LightHours y = withWalls(5);
        for (int left = 4; left >= 0; left--) {
            Due.is("strip()", y.strip(), left);
            Due.is("many(5)", y.many(5), left);
            Due.is("worth()", y.worth(), 5 * left);
        }
    }

    @Sentence(in = "Promise 21", says = "NONE: there are none.")
    private static void stripOfNoneIsRefused() {
        LightHours x = house();
        Due.is("strip()", x.strip(), Due.NONE);
        x.wall(0, 0, 0);
        Due.is("strip() of one", x.strip(), 0);
        Due.is("strip()", x.strip(), Due.NONE);
        Due.is("many(5)", x.many(5), 0);
        x.wall(0, 0, 0);
        x.hang();
        Due.is("strip() behind hang()", x.strip(), Due.NONE);
        Due.is("wall(0, 0, 0) behind it", x.wall(0, 0, 0), 0);
    }

    // ---- Promise 22

    @Sentence(in = "Promise 22", says = "The SHEET that THE HANG gives a WALL.")
    private static void hungTellsTheFirstAndTheLastSheet() {
        LightHours x = new LightHours();
        x.room(1);
        x.sheet(10, 1, 1, 0);
        for (int sheet = 1; sheet < 8; sheet++) {
            x.sheet(10, 2, sheet, 0);
        }
        x.wall(0, 0, 0);
        x.wall(0, 0, 1);
        Due.is("hung(0)", x.hung(0), 0);
        Due.is("hung(1)", x.hung(1), 7);
    }

    @Sentence(in = "Promise 22", says = "NUMBER: there is none such")
    private static void hungNeedsAWall() {
        for (int there = 0; there <= 5; there++) {
            LightHours x = withWalls(there);
            for (int bad : new int[] {Due.MIN, -4, -1, there, 5, 6, Due.MAX}) {
                Due.is("hung(" + bad + ") of " + there, x.hung(bad), Due.NUMBER);
            }
            if (there > 0) {
                Due.is("hung of the last of " + there, x.hung(there - 1), 0);
            }
        }
    }

    @Sentence(in = "Promise 22", says = "NONE: nothing.")
    private static void hungTellsNoneOfAnEmptyWall() {
        LightHours x = new LightHours();
        x.room(50);
        for (int wall = 0; wall < 5; wall++) {
            x.wall(0, 0, 0);
            Due.is("hung(" + wall + ") without SHEETS", x.hung(wall), Due.NONE);
        }
        x.sheet(49, 1, 9, 0);
        Due.is("hung(0) of 49 for 50", x.hung(0), Due.NONE);
        x.sheet(50, 1, 1, 0);
        Due.is("hung(0) of 50 for 50", x.hung(0), 1);
        Due.is("hung(1)", x.hung(1), Due.NONE);
    }

    // ---- Promise 23

    @Sentence(in = "Promise 23", says = "WORTH of THE HANG.")
    private static void worthGoesFromNoughtToFortyFive() {
        LightHours x = house();
        Due.is("worth() without WALLS", x.worth(), 0);
        LightHours y = new LightHours();
        y.room(1);
        for (int wall = 0; wall < 5; wall++) {
            y.wall(0, 0, 0);
        }
        Due.is("worth() without SHEETS", y.worth(), 0);
        for (int sheet = 0; sheet < 8; sheet++) {
            y.sheet(1, 1, 9, 0);
            Due.is("worth() of " + (sheet + 1) + " SHEETS", y.worth(), 9 * Math.min(5, sheet + 1));
        }
    }

    @Sentence(in = "Promise 23", says = "WORTH of THE HANG.")
    private static void worthIsOfTheHangThatIsWorthMost() {
        LightHours x = new LightHours();
        x.room(10);
        x.sheet(10, 15, 9, 0);
        x.sheet(10, 1, 8, 0);
        x.sheet(10, 2, 7, 0);
        x.sisters(1, 2);
        x.wall(0, 0, 0);
        x.wall(0, 0, 1);
        Due.is("worth()", x.worth(), 17);
        x.wall(0, 0, 2);
        Due.is("worth() with a WALL for SHEET 0 alone", x.worth(), 17);
        x.wall(0, 1, 1);
        Due.is("worth() with another YEAR", x.worth(), 24);
    }

    // ---- Promise 24

    @Sentence(in = "Promise 24", says = "the least that is LEFT less the greatest LIGHT of its WALLS")
    private static void sparesIsWhatIsLeftWithoutAWall() {
        LightHours x = house();
        x.past(0, 0, 300);
        Due.is("spares(0)", x.spares(0), 700);
        x.past(0, 0, 1000);
        Due.is("spares(0) of 0", x.spares(0), 0);
        x.past(0, 0, 1001);
        Due.is("spares(0) of less than 0", x.spares(0), -1);
        x.wall(0, 0, 0);
        Due.is("spares(0) that isn't hung", x.spares(0), -1);
        Due.is("spares(1) that is", x.spares(1), 950);
    }

    @Sentence(in = "Promise 24", says = "the least that is LEFT less the greatest LIGHT of its WALLS")
    private static void sparesCountsEachOfItsWalls() {
        LightHours x = house();
        for (int wall = 0; wall < 5; wall++) {
            x.wall(1, wall, 0);
        }
        Due.is("spares(0)", x.spares(0), 500);
        x.reading(1, 4, 0);
        Due.is("spares(0) with a READING of 0", x.spares(0), 600);
        x.past(0, 0, 600);
        Due.is("spares(0) with nothing to spare", x.spares(0), 0);
        x.past(0, 0, 601);
        Due.is("spares(0) with a WALL less", x.spares(0), 99);
        Due.is("spares(1) with a WALL more", x.spares(1), 900);
    }

    @Sentence(in = "Promise 24", says = "NOTHING: there is none such.")
    private static void sparesOfNoSheetIsNothing() {
        LightHours x = withWalls(5);
        for (int bad : new int[] {Due.MIN, -4, -1, 2, 8, Due.MAX}) {
            Due.is("spares(" + bad + ")", x.spares(bad), Due.NOTHING);
        }
    }

    // ---- Promise 25

    @Sentence(in = "Promise 25", says = "a SHOW for each WALL that has a SHEET, by WALLS")
    private static void hangBooksAShowForEachWallByWalls() {
        LightHours x = house();
        x.lend(0, 0, 1);
        x.wall(1, 9, 0);
        x.wall(0, 9, 1);
        x.wall(0, 9, 2);
        x.wall(0, 0, 3);
        x.wall(1, 0, 3);
        Due.is("hang()", x.hang(), 4);
        Due.is("many(2)", x.many(2), 5);
        int[][] due = {{0, 0, 1, 9, 0, 100, 0}, {0, 1, 0, 9, 0, 50, 0}, {0, 0, 0, 0, 0, 50, 0}, {0, 1, 1, 0, 0, 100, 0}};
        for (int show = 0; show < 4; show++) {
            for (int what = 0; what <= 6; what++) {
                Due.is("booking(" + (show + 1) + ", " + what + ")", x.booking(show + 1, what), due[show][what]);
            }
        }
    }

    @Sentence(in = "Promise 25", says = "and all WALLS are no more: how many")
    private static void hangAnswersHowManyShowsAndLeavesNoWall() {
        Due.is("hang() without WALLS", withWalls(0).hang(), 0);
        for (int there = 1; there <= 5; there++) {
            LightHours x = withWalls(there);
            Due.is("hang() of " + there, x.hang(), there);
            Due.is("many(5)", x.many(5), 0);
            Due.is("hung(0)", x.hung(0), Due.NUMBER);
            Due.is("worth()", x.worth(), 0);
            Due.is("strip()", x.strip(), Due.NONE);
            Due.is("hang() again", x.hang(), 0);
            Due.is("many(2)", x.many(2), there);
        }
    }

    @Sentence(in = "Promise 25", says = "and all WALLS are no more")
    private static void wallsThatStayedEmptyAreNoMoreToo() {
        LightHours x = new LightHours();
        x.room(50);
        x.wall(0, 0, 0);
        x.wall(0, 1, 0);
        Due.is("hang() with nothing hung", x.hang(), 0);
        Due.is("many(5)", x.many(5), 0);
        Due.is("many(2)", x.many(2), 0);
    }

    @Sentence(in = "Promise 25", says = "FULL: there would be more than 30 BOOKINGS.")
    private static void hangMayFillTheBookingsButNoMore() {
        for (int walls = 1; walls <= 5; walls++) {
            LightHours x = withWalls(walls);
            for (int loan = 0; loan < 30 - walls; loan++) {
                x.lend(1, 0, 1);
            }
            x.keep();
            Due.is("hang() of " + walls + " behind " + (30 - walls), x.hang(), walls);
            Due.is("many(2)", x.many(2), 30);
            Due.is("booking(29, 3)", x.booking(29, 3), walls - 1);
            x.back();
            x.lend(1, 0, 1);
            Due.is("hang() of " + walls + " behind " + (31 - walls), x.hang(), Due.FULL);
            Due.is("many(2)", x.many(2), 31 - walls);
            Due.is("many(5)", x.many(5), walls);
            Due.is("worth()", x.worth(), 5 * walls);
        }
    }

    @Sentence(in = "Promise 25", says = "FULL: there would be more than 30 BOOKINGS.")
    private static void cancelledBookingsCountForFull() {
        LightHours x = withWalls(1);
        for (int loan = 0; loan < 30; loan++) {
            x.lend(1, 0, 1);
            x.cancel(loan);
        }
        Due.is("hang() behind 30 that are cancelled", x.hang(), Due.FULL);
        Due.is("many(5)", x.many(5), 1);
    }

    @Sentence(in = "Promise 25", says = "FULL: there would be more than 30 BOOKINGS.")
    private static void wallsThatStayEmptyDoNotCountForFull() {
        LightHours x = withWalls(0);
        for (int loan = 0; loan < 29; loan++) {
            x.lend(1, 0, 1);
        }
        x.past(1, 2000, 2000);
        for (int wall = 0; wall < 5; wall++) {
            x.wall(0, 0, 0);
        }
        x.keep();
        Due.is("hang() of five WALLS and one SHEET behind 29", x.hang(), 1);
        x.back();
        x.past(0, 2000, 2000);
        x.past(1, 0, 0);
        x.lend(1, 0, 1);
        x.past(1, 2000, 2000);
        Due.is("hang() of five empty WALLS behind 30", x.hang(), 0);
        Due.is("many(5)", x.many(5), 0);
        Due.is("many(2)", x.many(2), 30);
    }

    @Sentence(in = "Promise 25", says = "THE HANG is booked")
    private static void whatIsBookedStandsInTheWayOfTheNextHang() {
        LightHours x = new LightHours();
        x.room(50);
        x.sheet(100, 1, 5, 1);
        x.wall(0, 4, 0);
        Due.is("hang()", x.hang(), 1);
        x.wall(0, 3, 0);
        Due.is("hung(0) a YEAR ahead", x.hung(0), Due.NONE);
        x.strip();
        x.wall(0, 2, 0);
        Due.is("hung(0) two YEARS ahead", x.hung(0), 0);
        x.wall(0, 6, 0);
        Due.is("hung(1) with nothing left", x.hung(1), Due.NONE);
        x.cancel(0);
        Due.is("hung(1) with the SHOW cancelled", x.hung(1), 0);
    }

    // ---- Promise 26

    @Sentence(in = "Promise 26", says = "what = 0 ROOMS, 1 SHEETS, 2 BOOKINGS, 3 that are CANCELLED, 4 THREADS, 5 WALLS")
    private static void manyCountsEachKindAlone() {
        LightHours x = new LightHours();
        for (int room = 0; room < 4; room++) {
            x.room(1);
        }
        int[] due = {4, 8, 30, 7, 12, 5};
        for (int sheet = 0; sheet < 8; sheet++) {
            x.sheet(2000, 15, 1, 0);
        }
        for (int booking = 0; booking < 30; booking++) {
            x.lend(booking % 8, 0, 1);
        }
        for (int booking = 0; booking < 7; booking++) {
            x.cancel(booking * 4);
        }
        for (int thread = 0; thread < 12; thread++) {
            x.thread(thread % 8, 0, 0);
        }
        for (int wall = 0; wall < 5; wall++) {
            x.wall(0, 0, 0);
        }
        for (int what = 0; what <= 5; what++) {
            Due.is("many(" + what + ")", x.many(what), due[what]);
        }
    }

    @Sentence(in = "Promise 26", says = "6 SHEETS whose THREADS QUARREL")
    private static void manyCountsSheetsThatQuarrelNotThreads() {
        LightHours x = new LightHours();
        for (int sheet = 0; sheet < 8; sheet++) {
            x.sheet(1, 1, 1, 0);
            Due.is("many(6)", x.many(6), sheet);
            x.thread(sheet, 0, 1);
            Due.is("many(6)", x.many(6), sheet + 1);
        }
        x.thread(7, 0, 2);
        Due.is("many(6) with two of one SHEET", x.many(6), 8);
        x.cut();
        x.cut();
        Due.is("many(6) with both cut", x.many(6), 7);
        x.past(0, 0, 10);
        Due.is("many(6) with a PAST that agrees", x.many(6), 6);
    }

    @Sentence(in = "Promise 26", says = "7 SHEETS of which the least that is LEFT is below 0")
    private static void manyCountsSheetsBelowNoughtNotAtNought() {
        LightHours x = new LightHours();
        for (int sheet = 0; sheet < 8; sheet++) {
            x.sheet(100, 1, 1, 0);
            x.past(sheet, 0, 100);
            Due.is("many(7) with 0 left", x.many(7), sheet);
            x.past(sheet, 0, 101);
            Due.is("many(7) with -1 to 100 left", x.many(7), sheet + 1);
        }
    }

    @Sentence(in = "Promise 26", says = "8 READINGS that there are")
    private static void manyCountsReadingsThatAreNotMissing() {
        LightHours x = new LightHours();
        int there = 0;
        for (int room = 0; room < 4; room++) {
            x.room(9);
            for (int year = 0; year <= 9; year++) {
                x.reading(room, year, year);
                there++;
                Due.is("many(8)", x.many(8), there);
            }
        }
        x.reading(3, 9, -1);
        x.reading(3, 9, -1);
        Due.is("many(8) with one missing", x.many(8), 39);
        x.reading(0, 0, -1);
        Due.is("many(8) with two missing", x.many(8), 38);
        x.reading(0, 0, 9);
        x.reading(0, 1, 9);
        Due.is("many(8) with one again and one anew", x.many(8), 39);
    }

    @Sentence(in = "Promise 26", says = "NUMBER: another what.")
    private static void manyNeedsAWhat() {
        LightHours x = withWalls(5);
        for (int bad : new int[] {Due.MIN, -2, -1, 9, 10, Due.MAX}) {
            Due.is("many(" + bad + ")", x.many(bad), Due.NUMBER);
            Due.is("many(" + bad + ") of a new one", new LightHours().many(bad), Due.NUMBER);
        }
    }
}
