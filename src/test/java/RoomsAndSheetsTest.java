/** Promises 1 to 8 of DOC.md: a test for each sentence that names a boundary case. */
public final class RoomsAndSheetsTest {
    public static void main(String[] args) {
        Due.runAll(RoomsAndSheetsTest.class);
    }

    /** ROOMS of WORST 50 and 100, and two SHEETS of LIMIT 1000 with all THEMES. */
    private static LightHours house() {
        LightHours x = new LightHours();
        x.room(50);
        x.room(100);
        x.sheet(1000, 15, 5, 0);
        x.sheet(1000, 15, 4, 1);
        return x;
    }

    private static LightHours withRooms(int count) {
        LightHours x = new LightHours();
        for (int room = 0; room < count; room++) {
            x.room(50);
        }
        return x;
    }

    private static LightHours withSheets(int count) {
        LightHours x = new LightHours();
        for (int sheet = 0; sheet < count; sheet++) {
            x.sheet(1000, 15, 5, 0);
        }
        return x;
    }

    // ---- Promise 1

    @Sentence(in = "Promise 1", says = "No ROOMS, SHEETS, BOOKINGS, THREADS, WALLS")
    private static void aNewObjectHasNothing() {
        LightHours x = new LightHours();
        for (int what = 0; what <= 8; what++) {
            Due.is("many(" + what + ")", x.many(what), 0);
        }
    }

    @Sentence(in = "Promise 1", says = "No ROOMS, SHEETS, BOOKINGS, THREADS, WALLS")
    private static void aNewObjectKnowsNoNumber() {
        LightHours x = new LightHours();
        Due.is("reading(0, 0, 0)", x.reading(0, 0, 0), Due.NUMBER);
        Due.is("reading(0, 0, -1)", x.reading(0, 0, -1), Due.NUMBER);
        Due.is("light(0, 0, false)", x.light(0, 0, false), Due.NUMBER);
        Due.is("sisters(0, 1)", x.sisters(0, 1), Due.NUMBER);
        Due.is("past(0, 0, 0)", x.past(0, 0, 0), Due.NUMBER);
        Due.is("of(0, 0)", x.of(0, 0), Due.NUMBER);
        Due.is("of(0, 4)", x.of(0, 4), Due.NUMBER);
        Due.is("show(0, 0, 0)", x.show(0, 0, 0), Due.NUMBER);
        Due.is("lend(0, 0, 1)", x.lend(0, 0, 1), Due.NUMBER);
        Due.is("lacks(0, 1)", x.lacks(0, 1), Due.NUMBER);
        Due.is("cancel(0)", x.cancel(0), Due.NUMBER);
        Due.is("booking(0, 0)", x.booking(0, 0), Due.NUMBER);
        Due.is("thread(0, 0, 0)", x.thread(0, 0, 0), Due.NUMBER);
        Due.is("pastOf(0, false)", x.pastOf(0, false), Due.NUMBER);
        Due.is("spent(0, 0, false)", x.spent(0, 0, false), Due.NUMBER);
        Due.is("left(0, false)", x.left(0, false), Due.NOTHING);
        Due.is("step(0, 0, false)", x.step(0, 0, false), Due.NUMBER);
        Due.is("wall(0, 0, 0)", x.wall(0, 0, 0), Due.NUMBER);
        Due.is("hung(0)", x.hung(0), Due.NUMBER);
        Due.is("spares(0)", x.spares(0), Due.NOTHING);
    }

    @Sentence(in = "Promise 1", says = "No ROOMS, SHEETS, BOOKINGS, THREADS, WALLS")
    private static void aNewObjectHasNothingToTakeAwayOrToHang() {
        Due.is("cut()", new LightHours().cut(), Due.NONE);
        Due.is("strip()", new LightHours().strip(), Due.NONE);
        Due.is("worth()", new LightHours().worth(), 0);
        Due.is("hang()", new LightHours().hang(), 0);
    }

    @Sentence(in = "Promise 1", says = "nothing is kept")
    private static void ofANewObjectNothingIsKept() {
        LightHours other = house();
        other.keep();
        LightHours x = new LightHours();
        Due.is("back()", x.back(), Due.NONE);
        Due.is("many(0)", x.many(0), 0);
        x.room(9);
        Due.is("back() with a ROOM", x.back(), Due.NONE);
        Due.is("many(0)", x.many(0), 1);
    }

    @Sentence(in = "Promise 1", says = "No ROOMS, SHEETS, BOOKINGS, THREADS, WALLS")
    private static void anObjectHasNothingOfAnother() {
        LightHours other = house();
        LightHours x = new LightHours();
        other.show(0, 0, 0);
        other.thread(0, 0, 0);
        other.wall(0, 0, 0);
        other.reading(0, 0, 1);
        for (int what = 0; what <= 8; what++) {
            Due.is("many(" + what + ")", x.many(what), 0);
        }
        x.room(3);
        Due.is("light(0, 0, true) of the other", other.light(0, 0, true), 1);
        Due.is("light(0, 0, true)", x.light(0, 0, true), 3);
    }

    // ---- Promise 2

    @Sentence(in = "Promise 2", says = "A ROOM comes: its number.")
    private static void aRoomAnswersItsNumber() {
        for (int there = 0; there < 4; there++) {
            LightHours x = withRooms(there);
            Due.is("room(200) behind " + there, x.room(200), there);
            Due.is("light of it", x.light(there, 9, true), 200);
            Due.is("many(0)", x.many(0), there + 1);
        }
    }

    @Sentence(in = "Promise 2", says = "NUMBER: worst isn't 1 to 200")
    private static void aRoomNeedsAWorstThatMayBe() {
        for (int bad : new int[] {Due.MIN, -200, -1, 0, 201, 256, 1000, Due.MAX}) {
            LightHours x = new LightHours();
            Due.is("room(" + bad + ")", x.room(bad), Due.NUMBER);
            Due.is("many(0)", x.many(0), 0);
            Due.is("room(1) behind it", x.room(1), 0);
        }
    }

    @Sentence(in = "Promise 2", says = "FULL")
    private static void aFifthRoomDoesNotCome() {
        LightHours x = withRooms(4);
        Due.is("room(1)", x.room(1), Due.FULL);
        Due.is("room(200)", x.room(200), Due.FULL);
        Due.is("many(0)", x.many(0), 4);
        Due.is("light(3, 0, true)", x.light(3, 0, true), 50);
        Due.is("light(4, 0, true)", x.light(4, 0, true), Due.NUMBER);
    }

    // ---- Promise 3

    @Sentence(in = "Promise 3", says = "A READING (-1: missing): 1.")
    private static void aReadingMayBeReadAnewAndTakenAway() {
        LightHours x = house();
        Due.is("reading(1, 0, -1) where none was", x.reading(1, 0, -1), 1);
        Due.is("many(8)", x.many(8), 0);
        Due.is("reading(1, 0, 100)", x.reading(1, 0, 100), 1);
        Due.is("reading(1, 0, 100) again", x.reading(1, 0, 100), 1);
        Due.is("many(8)", x.many(8), 1);
        Due.is("reading(1, 0, 0) anew", x.reading(1, 0, 0), 1);
        Due.is("light(1, 0, true)", x.light(1, 0, true), 0);
        Due.is("many(8)", x.many(8), 1);
        Due.is("reading(1, 0, -1)", x.reading(1, 0, -1), 1);
        Due.is("many(8)", x.many(8), 0);
        Due.is("light(1, 0, true)", x.light(1, 0, true), 100);
    }

    @Sentence(in = "Promise 3", says = "A READING (-1: missing): 1.")
    private static void aReadingIsOfItsRoomAndYearAlone() {
        for (int year = 0; year <= 9; year++) {
            LightHours x = withRooms(4);
            x.reading(2, year, 17);
            for (int room = 0; room < 4; room++) {
                for (int other = 0; other <= 9; other++) {
                    boolean read = room == 2 && other == year;
                    Due.is("light(" + room + ", " + other + ", true)", x.light(room, other, true), read ? 17 : 50);
                    Due.is("light(" + room + ", " + other + ", false)", x.light(room, other, false), read ? 17 : 0);
                }
            }
        }
    }

    @Sentence(in = "Promise 3", says = "NUMBER: there is no such ROOM, YEAR")
    private static void aReadingNeedsARoomAndAYear() {
        for (int bad : new int[] {Due.MIN, -1, 2, 3, 4, Due.MAX}) {
            for (int v : new int[] {-1, 0, 1}) {
                Due.is("reading(" + bad + ", 0, " + v + ")", house().reading(bad, 0, v), Due.NUMBER);
            }
        }
        for (int bad : new int[] {Due.MIN, -1, 10, 20, Due.MAX}) {
            for (int v : new int[] {-1, 0, 1}) {
                LightHours x = house();
                Due.is("reading(0, " + bad + ", " + v + ")", x.reading(0, bad, v), Due.NUMBER);
                Due.is("many(8)", x.many(8), 0);
                Due.is("light(1, 0, true)", x.light(1, 0, true), 100);
            }
        }
    }

    @Sentence(in = "Promise 3", says = "or v isn't -1 to its WORST")
    private static void aReadingIsFromMissingToWorst() {
        LightHours x = house();
        x.reading(0, 5, 20);
        for (int bad : new int[] {Due.MIN, -2, 51, 100, Due.MAX}) {
            Due.is("reading(0, 5, " + bad + ")", x.reading(0, 5, bad), Due.NUMBER);
            Due.is("light(0, 5, true)", x.light(0, 5, true), 20);
        }
        for (int bad : new int[] {Due.MIN, -2, 101, Due.MAX}) {
            Due.is("reading(1, 5, " + bad + ")", x.reading(1, 5, bad), Due.NUMBER);
            Due.is("light(1, 5, true)", x.light(1, 5, true), 100);
        }
        Due.is("reading(1, 5, 100)", x.reading(1, 5, 100), 1);
        Due.is("reading(0, 5, 50)", x.reading(0, 5, 50), 1);
        Due.is("reading(0, 5, -1)", x.reading(0, 5, -1), 1);
    }

    // ---- Promise 4

    @Sentence(in = "Promise 4", says = "the least (false) or greatest (true)")
    private static void falseAsksForTheLeastAndTrueForTheGreatest() {
        LightHours x = house();
        Due.is("light(0, 0, false)", x.light(0, 0, false), 0);
        Due.is("light(0, 0, true)", x.light(0, 0, true), 50);
        Due.is("light(1, 9, false)", x.light(1, 9, false), 0);
        Due.is("light(1, 9, true)", x.light(1, 9, true), 100);
    }

    @Sentence(in = "Promise 4", says = "NUMBER: there is no such ROOM, YEAR.")
    private static void lightNeedsARoomAndAYear() {
        LightHours x = house();
        for (boolean greatest : new boolean[] {false, true}) {
            for (int bad : new int[] {Due.MIN, -1, 2, 3, 4, Due.MAX}) {
                Due.is("light(" + bad + ", 0, " + greatest + ")", x.light(bad, 0, greatest), Due.NUMBER);
            }
            for (int bad : new int[] {Due.MIN, -1, 10, 19, Due.MAX}) {
                Due.is("light(0, " + bad + ", " + greatest + ")", x.light(0, bad, greatest), Due.NUMBER);
            }
            Due.is("light(2, 10, " + greatest + ")", x.light(2, 10, greatest), Due.NUMBER);
        }
    }

    // ---- Promise 5

    @Sentence(in = "Promise 5", says = "A SHEET comes: its number.")
    private static void aSheetAnswersItsNumber() {
        for (int there = 0; there < 8; there++) {
            LightHours x = withSheets(there);
            Due.is("sheet(2000, 15, 9, 3) behind " + there, x.sheet(2000, 15, 9, 3), there);
            Due.is("many(1)", x.many(1), there + 1);
            int[] due = {2000, 15, 9, 3, Due.NONE, 0, 0, 0};
            for (int what = 0; what <= 7; what++) {
                Due.is("of(" + there + ", " + what + ")", x.of(there, what), due[what]);
            }
        }
    }

    @Sentence(in = "Promise 5", says = "NUMBER: limit isn't 1 to 2000")
    private static void aSheetNeedsALimitThatMayBe() {
        badSheets(0, new int[] {Due.MIN, -1, 0, 2001, 3000, Due.MAX});
    }

    @Sentence(in = "Promise 5", says = "themes not 1 to 15")
    private static void aSheetNeedsThemesThatMayBe() {
        badSheets(1, new int[] {Due.MIN, -1, 0, 16, 32, Due.MAX});
    }

    @Sentence(in = "Promise 5", says = "value not 1 to 9")
    private static void aSheetNeedsAValueThatMayBe() {
        badSheets(2, new int[] {Due.MIN, -1, 0, 10, 15, Due.MAX});
    }

    @Sentence(in = "Promise 5", says = "or rest not 0 to 3")
    private static void aSheetNeedsARestThatMayBe() {
        badSheets(3, new int[] {Due.MIN, -2, -1, 4, 9, Due.MAX});
    }

    private static void badSheets(int at, int[] bads) {
        for (int bad : bads) {
            LightHours x = new LightHours();
            int[] a = {1, 1, 1, 1};
            a[at] = bad;
            Due.is("sheet with " + bad + " at " + at, x.sheet(a[0], a[1], a[2], a[3]), Due.NUMBER);
            Due.is("many(1)", x.many(1), 0);
            Due.is("sheet(1, 1, 1, 1) behind it", x.sheet(1, 1, 1, 1), 0);
        }
    }

    @Sentence(in = "Promise 5", says = "FULL")
    private static void aNinthSheetDoesNotCome() {
        LightHours x = withSheets(8);
        Due.is("sheet(1, 1, 1, 0)", x.sheet(1, 1, 1, 0), Due.FULL);
        Due.is("sheet(2000, 15, 9, 3)", x.sheet(2000, 15, 9, 3), Due.FULL);
        Due.is("many(1)", x.many(1), 8);
        Due.is("of(7, 0)", x.of(7, 0), 1000);
        Due.is("of(8, 0)", x.of(8, 0), Due.NUMBER);
    }

    // ---- Promise 6

    @Sentence(in = "Promise 6", says = "Two SHEETS are SISTERS: 1.")
    private static void sistersAreSoBothWays() {
        LightHours x = withSheets(8);
        Due.is("sisters(7, 0)", x.sisters(7, 0), 1);
        Due.is("of(0, 4)", x.of(0, 4), 7);
        Due.is("of(7, 4)", x.of(7, 4), 0);
        Due.is("sisters(1, 6)", x.sisters(1, 6), 1);
        Due.is("sisters(5, 2)", x.sisters(5, 2), 1);
        Due.is("sisters(3, 4)", x.sisters(3, 4), 1);
        for (int sheet = 0; sheet < 8; sheet++) {
            Due.is("of(" + sheet + ", 4) when all have one", x.of(sheet, 4), 7 - sheet);
        }
    }

    @Sentence(in = "Promise 6", says = "NUMBER: there is no such SHEET (either)")
    private static void sistersMustBothBeThere() {
        for (int bad : new int[] {Due.MIN, -4, -1, 2, 7, 8, Due.MAX}) {
            LightHours x = house();
            Due.is("sisters(" + bad + ", 0)", x.sisters(bad, 0), Due.NUMBER);
            Due.is("sisters(0, " + bad + ")", x.sisters(0, bad), Due.NUMBER);
            Due.is("sisters(" + bad + ", " + bad + ")", x.sisters(bad, bad), Due.NUMBER);
            Due.is("of(0, 4)", x.of(0, 4), Due.NONE);
            Due.is("sisters(0, 1) behind it", x.sisters(0, 1), 1);
        }
    }

    @Sentence(in = "Promise 6", says = "or they are the same")
    private static void noSheetIsItsOwnSister() {
        LightHours x = withSheets(8);
        for (int sheet = 0; sheet < 8; sheet++) {
            Due.is("sisters(" + sheet + ", " + sheet + ")", x.sisters(sheet, sheet), Due.NUMBER);
            Due.is("of(" + sheet + ", 4)", x.of(sheet, 4), Due.NONE);
        }
    }

    @Sentence(in = "Promise 6", says = "TWICE: one has a SISTER.")
    private static void neitherMayHaveASisterAlready() {
        LightHours x = withSheets(4);
        x.sisters(0, 1);
        Due.is("sisters(0, 1) again", x.sisters(0, 1), Due.TWICE);
        Due.is("sisters(1, 0) the other way", x.sisters(1, 0), Due.TWICE);
        Due.is("sisters(0, 2): the first has one", x.sisters(0, 2), Due.TWICE);
        Due.is("sisters(2, 0): the second has one", x.sisters(2, 0), Due.TWICE);
        Due.is("sisters(1, 2)", x.sisters(1, 2), Due.TWICE);
        Due.is("sisters(2, 1)", x.sisters(2, 1), Due.TWICE);
        x.sisters(2, 3);
        Due.is("sisters(0, 2): both have one", x.sisters(0, 2), Due.TWICE);
        Due.is("of(0, 4)", x.of(0, 4), 1);
        Due.is("of(2, 4)", x.of(2, 4), 3);
    }

    // ---- Promise 7

    @Sentence(in = "Promise 7", says = "The told PAST of a SHEET becomes another one: 1.")
    private static void aToldPastTakesThePlaceOfTheOneBefore() {
        LightHours x = house();
        Due.is("past(0, 100, 200)", x.past(0, 100, 200), 1);
        Due.is("past(0, 50, 300): wider", x.past(0, 50, 300), 1);
        Due.is("pastOf(0, false)", x.pastOf(0, false), 50);
        Due.is("pastOf(0, true)", x.pastOf(0, true), 300);
        Due.is("past(0, 0, 0): none", x.past(0, 0, 0), 1);
        Due.is("pastOf(0, true)", x.pastOf(0, true), 0);
        Due.is("past(0, 0, 0) again", x.past(0, 0, 0), 1);
        Due.is("pastOf(1, true) of the other", x.pastOf(1, true), 0);
    }

    @Sentence(in = "Promise 7", says = "NUMBER: there is none such")
    private static void aToldPastNeedsASheet() {
        for (int bad : new int[] {Due.MIN, -1, 2, 7, 8, Due.MAX}) {
            Due.is("past(" + bad + ", 0, 0)", house().past(bad, 0, 0), Due.NUMBER);
        }
    }

    @Sentence(in = "Promise 7", says = "least isn't 0 to 2000")
    private static void theLeastPastIsFromNoughtToTwoThousand() {
        LightHours x = house();
        x.past(0, 7, 8);
        for (int bad : new int[] {Due.MIN, -1, 2001, Due.MAX}) {
            Due.is("past(0, " + bad + ", 2000)", x.past(0, bad, 2000), Due.NUMBER);
            Due.is("past(0, " + bad + ", " + bad + ")", x.past(0, bad, bad), Due.NUMBER);
            Due.is("pastOf(0, false)", x.pastOf(0, false), 7);
        }
        Due.is("past(0, 0, 8)", x.past(0, 0, 8), 1);
        Due.is("past(0, 2000, 2000)", x.past(0, 2000, 2000), 1);
    }

    @Sentence(in = "Promise 7", says = "or greatest not from least to 2000")
    private static void theGreatestPastIsFromTheLeastToTwoThousand() {
        LightHours x = house();
        x.past(0, 7, 8);
        for (int bad : new int[] {Due.MIN, -1, 0, 99, 2001, Due.MAX}) {
            Due.is("past(0, 100, " + bad + ")", x.past(0, 100, bad), Due.NUMBER);
            Due.is("pastOf(0, false)", x.pastOf(0, false), 7);
            Due.is("pastOf(0, true)", x.pastOf(0, true), 8);
        }
        Due.is("past(0, 100, 100)", x.past(0, 100, 100), 1);
        Due.is("past(0, 100, 2000)", x.past(0, 100, 2000), 1);
        Due.is("past(0, 2000, 1999)", x.past(0, 2000, 1999), Due.NUMBER);
        Due.is("past(0, 0, -1)", x.past(0, 0, -1), Due.NUMBER);
    }

    // ---- Promise 8

    @Sentence(in = "Promise 8", says = "what = 0 LIMIT, 1 THEMES, 2 VALUE, 3 REST")
    private static void ofTellsWhatTheSheetCameWith() {
        LightHours x = new LightHours();
        x.sheet(1, 1, 1, 0);
        x.sheet(2000, 15, 9, 3);
        x.sheet(321, 6, 8, 2);
        int[][] due = {{1, 1, 1, 0}, {2000, 15, 9, 3}, {321, 6, 8, 2}};
        for (int sheet = 0; sheet < 3; sheet++) {
            for (int what = 0; what < 4; what++) {
                Due.is("of(" + sheet + ", " + what + ")", x.of(sheet, what), due[sheet][what]);
            }
        }
    }

    @Sentence(in = "Promise 8", says = "4 its SISTER (NONE: none)")
    private static void ofTellsTheSisterOrNone() {
        LightHours x = house();
        Due.is("of(0, 4)", x.of(0, 4), Due.NONE);
        x.sisters(1, 0);
        Due.is("of(0, 4)", x.of(0, 4), 1);
        Due.is("of(1, 4): SHEET 0 is one", x.of(1, 4), 0);
    }

    @Sentence(in = "Promise 8", says = "5 1 if its THREADS QUARREL, else 0")
    private static void ofTellsWhetherItsThreadsQuarrel() {
        LightHours x = house();
        Due.is("of(0, 5) without THREADS", x.of(0, 5), 0);
        x.thread(0, 0, 0);
        Due.is("of(0, 5) of one that agrees", x.of(0, 5), 0);
        x.thread(0, 0, 1);
        Due.is("of(0, 5) of one that doesn't", x.of(0, 5), 1);
        Due.is("of(1, 5) of the other", x.of(1, 5), 0);
    }

    @Sentence(in = "Promise 8", says = "6 how many BOOKINGS (not CANCELLED)")
    private static void ofTellsHowManyBookingsStand() {
        LightHours x = house();
        Due.is("of(0, 6) of none", x.of(0, 6), 0);
        x.show(0, 0, 0);
        x.show(1, 0, 0);
        x.lend(0, 0, 1);
        Due.is("of(0, 6)", x.of(0, 6), 2);
        Due.is("of(1, 6)", x.of(1, 6), 1);
        x.cancel(0);
        Due.is("of(0, 6) with the SHOW cancelled", x.of(0, 6), 1);
        x.cancel(2);
        Due.is("of(0, 6) with all cancelled", x.of(0, 6), 0);
        for (int booking = 3; booking < 30; booking++) {
            x.lend(0, 0, 1);
        }
        Due.is("of(0, 6) of as many as may be", x.of(0, 6), 27);
    }

    @Sentence(in = "Promise 8", says = "7 how many THREADS")
    private static void ofTellsHowManyThreads() {
        LightHours x = house();
        Due.is("of(0, 7) of none", x.of(0, 7), 0);
        for (int thread = 0; thread < 11; thread++) {
            x.thread(0, 0, 7);
        }
        x.thread(1, 0, 7);
        Due.is("of(0, 7)", x.of(0, 7), 11);
        Due.is("of(1, 7)", x.of(1, 7), 1);
        x.cut();
        Due.is("of(1, 7) with it cut", x.of(1, 7), 0);
        Due.is("of(0, 7)", x.of(0, 7), 11);
    }

    @Sentence(in = "Promise 8", says = "NUMBER: there is none such, another what.")
    private static void ofNeedsASheetAndAWhat() {
        LightHours x = house();
        for (int what = 0; what <= 7; what++) {
            for (int bad : new int[] {Due.MIN, -1, 2, 7, 8, Due.MAX}) {
                Due.is("of(" + bad + ", " + what + ")", x.of(bad, what), Due.NUMBER);
            }
        }
        for (int bad : new int[] {Due.MIN, -2, -1, 8, 9, Due.MAX}) {
            Due.is("of(0, " + bad + ")", x.of(0, bad), Due.NUMBER);
            Due.is("of(1, " + bad + ")", x.of(1, bad), Due.NUMBER);
            Due.is("of(2, " + bad + ")", x.of(2, bad), Due.NUMBER);
        }
    }
}
