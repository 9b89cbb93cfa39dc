import java.util.function.ToIntFunction;

/** The 'Terms' 1 to 3 of DOC.md and its constants: a test for each sentence that names a range or another boundary. */
public final class TermsTest {
    private static final int[] T = {0, 10, 20, 40, 80, 160, 320, 640};

    public static void main(String[] args) {
        Due.runAll(TermsTest.class);
    }

    /** A ROOM of WORST 50 and a SHEET of LIMIT 1000 with all THEMES, VALUE 5 and REST 0. */
    private static LightHours small() {
        LightHours x = new LightHours();
        x.room(50);
        x.sheet(1000, 15, 5, 0);
        return x;
    }

    private static void refusedBySmall(String call, ToIntFunction<LightHours> asked, int want) {
        Due.is(call, asked.applyAsInt(small()), want);
    }

    // ---- Terms 1

    @Sentence(in = "Terms 1", says = "YEARS are 0 to 9.")
    private static void yearsGoFromNoughtToNine() {
        for (int year = 0; year <= 9; year++) {
            LightHours x = small();
            Due.is("reading(0, " + year + ", 3)", x.reading(0, year, 3), 1);
            Due.is("light(0, " + year + ", true)", x.light(0, year, true), 3);
            Due.is("show(0, 0, " + year + ")", x.show(0, 0, year), 0);
            Due.is("lend(0, " + year + ", 4)", x.lend(0, year, 4), 1);
            Due.is("booking(1, 3)", x.booking(1, 3), year);
            Due.is("spent(0, " + year + ", true)", x.spent(0, year, true), 7);
            Due.is("step(0, " + year + ", true)", x.step(0, year, true), 0);
            Due.is("thread(0, " + year + ", 0)", x.thread(0, year, 0), 0);
            Due.is("wall(0, " + year + ", 0)", x.wall(0, year, 0), 0);
        }
    }

    @Sentence(in = "Terms 1", says = "YEARS are 0 to 9.")
    private static void noYearIsAheadOfNoughtOrBehindNine() {
        for (int bad : new int[] {Due.MIN, -2, -1, 10, 11, Due.MAX}) {
            refusedBySmall("reading(0, " + bad + ", 3)", x -> x.reading(0, bad, 3), Due.NUMBER);
            refusedBySmall("light(0, " + bad + ", true)", x -> x.light(0, bad, true), Due.NUMBER);
            refusedBySmall("light(0, " + bad + ", false)", x -> x.light(0, bad, false), Due.NUMBER);
            refusedBySmall("show(0, 0, " + bad + ")", x -> x.show(0, 0, bad), Due.NUMBER);
            refusedBySmall("lend(0, " + bad + ", 4)", x -> x.lend(0, bad, 4), Due.NUMBER);
            refusedBySmall("spent(0, " + bad + ", true)", x -> x.spent(0, bad, true), Due.NUMBER);
            refusedBySmall("spent(0, " + bad + ", false)", x -> x.spent(0, bad, false), Due.NUMBER);
            refusedBySmall("step(0, " + bad + ", true)", x -> x.step(0, bad, true), Due.NUMBER);
            refusedBySmall("step(0, " + bad + ", false)", x -> x.step(0, bad, false), Due.NUMBER);
            refusedBySmall("thread(0, " + bad + ", 0)", x -> x.thread(0, bad, 0), Due.NUMBER);
            refusedBySmall("wall(0, " + bad + ", 0)", x -> x.wall(0, bad, 0), Due.NUMBER);
        }
    }

    @Sentence(in = "Terms 1", says = "ROOMS are numbered from 0 as they come, 4 at most")
    private static void roomsAreNumberedAndNoMoreThanFour() {
        LightHours x = new LightHours();
        for (int room = 0; room < 4; room++) {
            Due.is("room(" + (10 + room) + ")", x.room(10 + room), room);
            Due.is("many(0)", x.many(0), room + 1);
        }
        Due.is("a fifth room", x.room(10), Due.FULL);
        Due.is("many(0)", x.many(0), 4);
        for (int room = 0; room < 4; room++) {
            Due.is("light(" + room + ", 0, true)", x.light(room, 0, true), 10 + room);
        }
    }

    @Sentence(in = "Terms 1", says = "ROOMS are numbered from 0 as they come")
    private static void noRoomIsThereBeforeItCame() {
        for (int there = 0; there <= 4; there++) {
            LightHours x = new LightHours();
            x.sheet(1000, 15, 5, 0);
            for (int room = 0; room < there; room++) {
                x.room(50);
            }
            for (int bad : new int[] {Due.MIN, -1, there, 4, 5, Due.MAX}) {
                Due.is("reading(" + bad + ", 0, 1) of " + there, x.reading(bad, 0, 1), Due.NUMBER);
                Due.is("reading(" + bad + ", 0, -1) of " + there, x.reading(bad, 0, -1), Due.NUMBER);
                Due.is("light(" + bad + ", 0, true) of " + there, x.light(bad, 0, true), Due.NUMBER);
                Due.is("show(0, " + bad + ", 0) of " + there, x.show(0, bad, 0), Due.NUMBER);
                Due.is("wall(" + bad + ", 0, 0) of " + there, x.wall(bad, 0, 0), Due.NUMBER);
            }
            if (there > 0) {
                Due.is("reading of the last of " + there, x.reading(there - 1, 0, 1), 1);
                Due.is("light of the last of " + there, x.light(there - 1, 0, true), 1);
                Due.is("show in the last of " + there, x.show(0, there - 1, 0), 0);
                Due.is("wall in the last of " + there, x.wall(there - 1, 0, 0), 0);
            }
        }
    }

    @Sentence(in = "Terms 1", says = "each with a WORST (1 to 200)")
    private static void worstGoesFromOneToTwoHundred() {
        for (int good : new int[] {1, 2, 199, 200}) {
            LightHours x = new LightHours();
            Due.is("room(" + good + ")", x.room(good), 0);
            Due.is("light(0, 0, true) of WORST " + good, x.light(0, 0, true), good);
        }
        for (int bad : new int[] {Due.MIN, -1, 0, 201, 202, Due.MAX}) {
            Due.is("room(" + bad + ")", new LightHours().room(bad), Due.NUMBER);
        }
    }

    @Sentence(in = "Terms 1", says = "a READING of a ROOM for a YEAR is 0 to WORST")
    private static void readingGoesFromNoughtToWorst() {
        for (int worst : new int[] {1, 50, 200}) {
            for (int good : new int[] {0, 1, worst - 1, worst}) {
                LightHours x = new LightHours();
                x.room(worst);
                Due.is("reading(0, 4, " + good + ") of WORST " + worst, x.reading(0, 4, good), 1);
                Due.is("light(0, 4, false)", x.light(0, 4, false), good);
                Due.is("light(0, 4, true)", x.light(0, 4, true), good);
                Due.is("many(8)", x.many(8), 1);
            }
            for (int bad : new int[] {Due.MIN, -3, -2, worst + 1, Due.MAX}) {
                LightHours x = new LightHours();
                x.room(worst);
                Due.is("reading(0, 4, " + bad + ") of WORST " + worst, x.reading(0, 4, bad), Due.NUMBER);
                Due.is("many(8)", x.many(8), 0);
            }
        }
    }

    @Sentence(in = "Terms 1", says = "a READING of a ROOM for a YEAR is 0 to WORST")
    private static void readingIsMeasuredByTheWorstOfItsOwnRoom() {
        LightHours x = new LightHours();
        x.room(20);
        x.room(120);
        Due.is("reading(0, 0, 21)", x.reading(0, 0, 21), Due.NUMBER);
        Due.is("reading(1, 0, 120)", x.reading(1, 0, 120), 1);
        Due.is("reading(0, 0, 20)", x.reading(0, 0, 20), 1);
        Due.is("reading(1, 0, 121)", x.reading(1, 0, 121), Due.NUMBER);
    }

    @Sentence(in = "Terms 1", says = "or missing (at first)")
    private static void allReadingsAreMissingAtFirst() {
        LightHours x = new LightHours();
        for (int room = 0; room < 4; room++) {
            x.room(200 - room);
            for (int year = 0; year <= 9; year++) {
                Due.is("light(" + room + ", " + year + ", false)", x.light(room, year, false), 0);
                Due.is("light(" + room + ", " + year + ", true)", x.light(room, year, true), 200 - room);
            }
        }
        Due.is("many(8)", x.many(8), 0);
    }

    @Sentence(in = "Terms 1", says = "the READING, or 0 to WORST without one")
    private static void aReadingOfNoughtIsNotAMissingOne() {
        LightHours x = small();
        x.reading(0, 0, 0);
        Due.is("light(0, 0, true) with READING 0", x.light(0, 0, true), 0);
        Due.is("many(8) with READING 0", x.many(8), 1);
        x.reading(0, 0, -1);
        Due.is("light(0, 0, true) without one", x.light(0, 0, true), 50);
        Due.is("many(8) without one", x.many(8), 0);
    }

    @Sentence(in = "Terms 1", says = "the READING, or 0 to WORST without one")
    private static void aReadingOfWorstIsNotAMissingOne() {
        LightHours x = small();
        x.reading(0, 9, 50);
        Due.is("light(0, 9, false) with READING 50", x.light(0, 9, false), 50);
        x.reading(0, 9, -1);
        Due.is("light(0, 9, false) without one", x.light(0, 9, false), 0);
    }

    @Sentence(in = "Terms 1", says = "SHEETS are numbered from 0 as they come, 8 at most")
    private static void sheetsAreNumberedAndNoMoreThanEight() {
        LightHours x = new LightHours();
        for (int sheet = 0; sheet < 8; sheet++) {
            Due.is("sheet " + sheet, x.sheet(100 + sheet, 1, 1, 0), sheet);
            Due.is("many(1)", x.many(1), sheet + 1);
        }
        Due.is("a ninth sheet", x.sheet(100, 1, 1, 0), Due.FULL);
        Due.is("many(1)", x.many(1), 8);
        for (int sheet = 0; sheet < 8; sheet++) {
            Due.is("of(" + sheet + ", 0)", x.of(sheet, 0), 100 + sheet);
        }
    }

    @Sentence(in = "Terms 1", says = "SHEETS are numbered from 0 as they come")
    private static void noSheetIsThereBeforeItCame() {
        for (int there = 0; there <= 8; there++) {
            LightHours x = new LightHours();
            x.room(50);
            for (int sheet = 0; sheet < there; sheet++) {
                x.sheet(1000, 15, 5, 0);
            }
            for (int bad : new int[] {Due.MIN, -1, there, 8, 9, Due.MAX}) {
                noSuchSheet(x, bad);
            }
            if (there > 0) {
                Due.is("of the last of " + there, x.of(there - 1, 0), 1000);
                Due.is("past of the last of " + there, x.past(there - 1, 1, 1), 1);
                Due.is("left of the last of " + there, x.left(there - 1, false), 999);
                Due.is("spares of the last of " + there, x.spares(there - 1), 999);
                Due.is("show of the last of " + there, x.show(there - 1, 0, 0), 0);
            }
        }
    }

    private static void noSuchSheet(LightHours x, int bad) {
        Due.is("sisters(" + bad + ", 0)", x.sisters(bad, 0), Due.NUMBER);
        Due.is("sisters(0, " + bad + ")", x.sisters(0, bad), Due.NUMBER);
        Due.is("past(" + bad + ", 0, 0)", x.past(bad, 0, 0), Due.NUMBER);
        Due.is("of(" + bad + ", 0)", x.of(bad, 0), Due.NUMBER);
        Due.is("show(" + bad + ", 0, 0)", x.show(bad, 0, 0), Due.NUMBER);
        Due.is("lend(" + bad + ", 0, 1)", x.lend(bad, 0, 1), Due.NUMBER);
        Due.is("lacks(" + bad + ", 1)", x.lacks(bad, 1), Due.NUMBER);
        Due.is("thread(" + bad + ", 0, 0)", x.thread(bad, 0, 0), Due.NUMBER);
        Due.is("pastOf(" + bad + ", true)", x.pastOf(bad, true), Due.NUMBER);
        Due.is("spent(" + bad + ", 0, true)", x.spent(bad, 0, true), Due.NUMBER);
        Due.is("step(" + bad + ", 0, true)", x.step(bad, 0, true), Due.NUMBER);
        Due.is("left(" + bad + ", true)", x.left(bad, true), Due.NOTHING);
        Due.is("spares(" + bad + ")", x.spares(bad), Due.NOTHING);
    }

    @Sentence(in = "Terms 1", says = "each with a LIMIT (1 to 2000)")
    private static void limitGoesFromOneToTwoThousand() {
        for (int good : new int[] {1, 2, 1999, 2000}) {
            LightHours x = new LightHours();
            Due.is("sheet(" + good + ", 1, 1, 0)", x.sheet(good, 1, 1, 0), 0);
            Due.is("of(0, 0)", x.of(0, 0), good);
        }
        for (int bad : new int[] {Due.MIN, -1, 0, 2001, 2002, Due.MAX}) {
            Due.is("sheet(" + bad + ", 1, 1, 0)", new LightHours().sheet(bad, 1, 1, 0), Due.NUMBER);
        }
    }

    @Sentence(in = "Terms 1", says = "THEMES (bits 1 to 15")
    private static void themesGoFromOneToFifteen() {
        for (int good = 1; good <= 15; good++) {
            LightHours x = new LightHours();
            Due.is("sheet(1, " + good + ", 1, 0)", x.sheet(1, good, 1, 0), 0);
            Due.is("of(0, 1)", x.of(0, 1), good);
        }
        for (int bad : new int[] {Due.MIN, -1, 0, 16, 17, 31, Due.MAX}) {
            Due.is("sheet(1, " + bad + ", 1, 0)", new LightHours().sheet(1, bad, 1, 0), Due.NUMBER);
        }
    }

    @Sentence(in = "Terms 1", says = "THEME t is 2 to the power of t")
    private static void eachThemeIsItsBit() {
        int[] powers = {1, 2, 4, 8};
        for (int themes = 1; themes <= 15; themes++) {
            LightHours x = new LightHours();
            x.room(1);
            x.sheet(1000, themes, 1, 0);
            for (int theme = 0; theme <= 3; theme++) {
                boolean has = themes / powers[theme] % 2 == 1;
                x.wall(0, theme, theme);
                Due.is("hung(" + theme + ") of THEMES " + themes, x.hung(theme), has ? 0 : Due.NONE);
            }
        }
    }

    @Sentence(in = "Terms 1", says = "a VALUE (1 to 9)")
    private static void valueGoesFromOneToNine() {
        for (int good = 1; good <= 9; good++) {
            LightHours x = new LightHours();
            Due.is("sheet(1, 1, " + good + ", 0)", x.sheet(1, 1, good, 0), 0);
            Due.is("of(0, 2)", x.of(0, 2), good);
        }
        for (int bad : new int[] {Due.MIN, -1, 0, 10, 11, Due.MAX}) {
            Due.is("sheet(1, 1, " + bad + ", 0)", new LightHours().sheet(1, 1, bad, 0), Due.NUMBER);
        }
    }

    @Sentence(in = "Terms 1", says = "a REST (0 to 3 YEARS)")
    private static void restGoesFromNoughtToThree() {
        for (int good = 0; good <= 3; good++) {
            LightHours x = new LightHours();
            Due.is("sheet(1, 1, 1, " + good + ")", x.sheet(1, 1, 1, good), 0);
            Due.is("of(0, 3)", x.of(0, 3), good);
        }
        for (int bad : new int[] {Due.MIN, -2, -1, 4, 5, Due.MAX}) {
            Due.is("sheet(1, 1, 1, " + bad + ")", new LightHours().sheet(1, 1, 1, bad), Due.NUMBER);
        }
    }

    @Sentence(in = "Terms 1", says = "a told PAST (a span, 0 to 0 at first")
    private static void toldPastIsNoughtAtFirst() {
        LightHours x = new LightHours();
        for (int sheet = 0; sheet < 8; sheet++) {
            x.sheet(7, 1, 1, 0);
            Due.is("pastOf(" + sheet + ", false)", x.pastOf(sheet, false), 0);
            Due.is("pastOf(" + sheet + ", true)", x.pastOf(sheet, true), 0);
            Due.is("left(" + sheet + ", false)", x.left(sheet, false), 7);
            Due.is("spent(" + sheet + ", 9, true)", x.spent(sheet, 9, true), 0);
        }
    }

    @Sentence(in = "Terms 1", says = "each 0 to 2000")
    private static void toldPastGoesFromNoughtToTwoThousand() {
        int[][] good = {{0, 0}, {0, 1}, {0, 2000}, {1, 1}, {1999, 2000}, {2000, 2000}};
        for (int[] span : good) {
            LightHours x = small();
            Due.is("past(0, " + span[0] + ", " + span[1] + ")", x.past(0, span[0], span[1]), 1);
            Due.is("pastOf(0, false)", x.pastOf(0, false), span[0]);
            Due.is("pastOf(0, true)", x.pastOf(0, true), span[1]);
        }
        int[][] bad = {{-1, 0}, {-1, -1}, {Due.MIN, 0}, {0, 2001}, {2000, 2001}, {2001, 2001}, {0, Due.MAX}, {Due.MAX, Due.MAX}};
        for (int[] span : bad) {
            LightHours x = small();
            Due.is("past(0, " + span[0] + ", " + span[1] + ")", x.past(0, span[0], span[1]), Due.NUMBER);
            Due.is("pastOf(0, true)", x.pastOf(0, true), 0);
        }
    }

    @Sentence(in = "Terms 1", says = "a SHEET has one SISTER at most")
    private static void aSheetHasOneSisterAtMost() {
        LightHours x = new LightHours();
        for (int sheet = 0; sheet < 8; sheet++) {
            x.sheet(1, 1, 1, 0);
            Due.is("of(" + sheet + ", 4) at first", x.of(sheet, 4), Due.NONE);
        }
        Due.is("sisters(0, 7)", x.sisters(0, 7), 1);
        for (int other = 1; other < 7; other++) {
            Due.is("sisters(0, " + other + ")", x.sisters(0, other), Due.TWICE);
            Due.is("sisters(" + other + ", 0)", x.sisters(other, 0), Due.TWICE);
            Due.is("sisters(7, " + other + ")", x.sisters(7, other), Due.TWICE);
            Due.is("sisters(" + other + ", 7)", x.sisters(other, 7), Due.TWICE);
            Due.is("of(" + other + ", 4)", x.of(other, 4), Due.NONE);
        }
        Due.is("of(0, 4)", x.of(0, 4), 7);
        Due.is("of(7, 4)", x.of(7, 4), 0);
        Due.is("sisters(2, 1) of two that have none", x.sisters(2, 1), 1);
        Due.is("of(1, 4)", x.of(1, 4), 2);
    }

    @Sentence(in = "Terms 1", says = "BOOKINGS are numbered from 0 as they come, 30 at most")
    private static void bookingsAreNumberedAndNoMoreThanThirty() {
        LightHours x = small();
        for (int booking = 0; booking < 10; booking++) {
            Due.is("show " + booking, x.show(0, 0, booking), booking);
        }
        for (int booking = 10; booking < 30; booking++) {
            Due.is("loan " + booking, x.lend(0, booking % 10, 1), booking);
            Due.is("many(2)", x.many(2), booking + 1);
        }
        x.sheet(1000, 1, 1, 0);
        Due.is("a loan too many", x.lend(1, 0, 1), Due.FULL);
        Due.is("a show too many", x.show(1, 0, 0), Due.FULL);
        Due.is("many(2)", x.many(2), 30);
        Due.is("booking(0, 3)", x.booking(0, 3), 0);
        Due.is("booking(29, 3)", x.booking(29, 3), 9);
        Due.is("booking(30, 3)", x.booking(30, 3), Due.NUMBER);
    }

    @Sentence(in = "Terms 1", says = "BOOKINGS are numbered from 0 as they come, 30 at most")
    private static void cancelledBookingsKeepTheirNumbersAndPlaces() {
        LightHours x = small();
        for (int booking = 0; booking < 30; booking++) {
            Due.is("lend " + booking, x.lend(0, 0, 1), booking);
            Due.is("cancel(" + booking + ")", x.cancel(booking), 1);
        }
        Due.is("lend behind 30 that are cancelled", x.lend(0, 0, 1), Due.FULL);
        Due.is("show behind 30 that are cancelled", x.show(0, 0, 0), Due.FULL);
        Due.is("many(2)", x.many(2), 30);
    }

    @Sentence(in = "Terms 1", says = "for an amount (1 to 500)")
    private static void amountGoesFromOneToFiveHundred() {
        for (int good : new int[] {1, 2, 499, 500}) {
            LightHours x = small();
            Due.is("lacks(0, " + good + ")", x.lacks(0, good), 0);
            Due.is("lend(0, 0, " + good + ")", x.lend(0, 0, good), 0);
            Due.is("booking(0, 4)", x.booking(0, 4), good);
        }
        for (int bad : new int[] {Due.MIN, -1, 0, 501, 502, Due.MAX}) {
            refusedBySmall("lend(0, 0, " + bad + ")", x -> x.lend(0, 0, bad), Due.NUMBER);
            refusedBySmall("lacks(0, " + bad + ")", x -> x.lacks(0, bad), Due.NUMBER);
        }
    }

    @Sentence(in = "Terms 1", says = "a SHOW the LIGHT of its ROOM in its YEAR (as the READING is now)")
    private static void aShowSpendsWhatIsReadNow() {
        LightHours x = small();
        x.room(70);
        x.show(0, 0, 4);
        Due.is("booking(0, 4) without a READING", x.booking(0, 4), 0);
        Due.is("booking(0, 5) without a READING", x.booking(0, 5), 50);
        x.reading(0, 3, 11);
        x.reading(0, 5, 12);
        x.reading(1, 4, 13);
        Due.is("booking(0, 4) with READINGS elsewhere", x.booking(0, 4), 0);
        Due.is("booking(0, 5) with READINGS elsewhere", x.booking(0, 5), 50);
        for (int read : new int[] {0, 50, 20}) {
            x.reading(0, 4, read);
            Due.is("booking(0, 4) with READING " + read, x.booking(0, 4), read);
            Due.is("booking(0, 5) with READING " + read, x.booking(0, 5), read);
            Due.is("left(0, false)", x.left(0, false), 1000 - read);
        }
        x.reading(0, 4, -1);
        Due.is("booking(0, 4) with it missing again", x.booking(0, 4), 0);
        Due.is("left(0, false) with it missing again", x.left(0, false), 950);
    }

    @Sentence(in = "Terms 1", says = "a LOAN its amount (least and greatest)")
    private static void aLoanSpendsItsAmountWhateverIsRead() {
        LightHours x = small();
        x.lend(0, 4, 33);
        x.reading(0, 4, 7);
        Due.is("booking(0, 4)", x.booking(0, 4), 33);
        Due.is("booking(0, 5)", x.booking(0, 5), 33);
        Due.is("spent(0, 4, false)", x.spent(0, 4, false), 33);
        Due.is("spent(0, 4, true)", x.spent(0, 4, true), 33);
    }

    // ---- Terms 2

    @Sentence(in = "Terms 2", says = "THREADS are numbered from 0 as they come, 12 at most")
    private static void threadsAreNumberedAndNoMoreThanTwelve() {
        LightHours x = small();
        for (int thread = 0; thread < 12; thread++) {
            Due.is("thread " + thread, x.thread(0, thread % 10, 0), thread);
            Due.is("many(4)", x.many(4), thread + 1);
            Due.is("of(0, 7)", x.of(0, 7), thread + 1);
        }
        Due.is("a thread too many", x.thread(0, 0, 0), Due.FULL);
        Due.is("many(4)", x.many(4), 12);
        Due.is("of(0, 7)", x.of(0, 7), 12);
    }

    @Sentence(in = "Terms 2", says = "a STEP (0 to 7)")
    private static void stepGoesFromNoughtToSeven() {
        for (int good = 0; good <= 7; good++) {
            Due.is("thread(0, 0, " + good + ")", small().thread(0, 0, good), 0);
        }
        for (int bad : new int[] {Due.MIN, -2, -1, 8, 9, Due.MAX}) {
            refusedBySmall("thread(0, 0, " + bad + ")", x -> x.thread(0, 0, bad), Due.NUMBER);
        }
    }

    @Sentence(in = "Terms 2", says = "from T(STEP) to T(STEP + 1) less 1; T is 0, 10, 20, 40, 80, 160, 320, 640, 100000")
    private static void aThreadGoesFromItsOwnMarkToTheNextLessOne() {
        for (int step = 0; step <= 7; step++) {
            LightHours x = small();
            x.past(0, 0, 2000);
            x.thread(0, 0, step);
            Due.is("pastOf(0, false) of STEP " + step, x.pastOf(0, false), T[step]);
            Due.is("pastOf(0, true) of STEP " + step, x.pastOf(0, true), step == 7 ? 2000 : T[step + 1] - 1);
        }
    }

    @Sentence(in = "Terms 2", says = "T is 0, 10, 20, 40, 80, 160, 320, 640, 100000")
    private static void theLastMarkIsBeyondAllThatCanBeHad() {
        LightHours x = new LightHours();
        x.room(200);
        x.sheet(2000, 1, 1, 0);
        for (int loan = 0; loan < 4; loan++) {
            x.lend(0, 0, 500);
        }
        for (int year = 0; year <= 9; year++) {
            x.show(0, 0, year);
        }
        x.past(0, 0, 2000);
        x.thread(0, 9, 7);
        Due.is("spent(0, 9, true)", x.spent(0, 9, true), 2000 + 4 * 500 + 10 * 200);
        Due.is("pastOf(0, true)", x.pastOf(0, true), 2000);
        Due.is("step(0, 9, true)", x.step(0, 9, true), 7);
        Due.is("of(0, 5)", x.of(0, 5), 0);
    }

    @Sentence(in = "Terms 2", says = "all BOOKINGS of it (not CANCELLED) of that YEAR or earlier ones")
    private static void aThreadCountsBookingsUpToItsYear() {
        for (int year = 0; year <= 9; year++) {
            LightHours x = small();
            x.lend(0, 5, 7);
            x.past(0, 0, 2000);
            x.thread(0, year, 1);
            Due.is("pastOf(0, false) by YEAR " + year, x.pastOf(0, false), year >= 5 ? 3 : 10);
            Due.is("pastOf(0, true) by YEAR " + year, x.pastOf(0, true), year >= 5 ? 12 : 19);
        }
    }

    @Sentence(in = "Terms 2", says = "all BOOKINGS of it (not CANCELLED)")
    private static void aThreadCountsNoCancelledBookingAndNoneOfAnother() {
        LightHours x = small();
        x.sheet(1000, 1, 1, 0);
        x.lend(1, 0, 8);
        x.lend(0, 0, 9);
        x.past(0, 0, 2000);
        x.thread(0, 9, 1);
        Due.is("pastOf(0, false) with its loan", x.pastOf(0, false), 1);
        Due.is("pastOf(0, true) with its loan", x.pastOf(0, true), 10);
        x.cancel(1);
        Due.is("pastOf(0, false) with it cancelled", x.pastOf(0, false), 10);
        Due.is("pastOf(0, true) with it cancelled", x.pastOf(0, true), 19);
    }

    @Sentence(in = "Terms 2", says = "from T(STEP) less the greatest that these BOOKINGS SPEND together, to T(STEP + 1) less 1 less the least that they do")
    private static void aThreadTakesTheGreatestFromItsLeastAndTheLeastFromItsGreatest() {
        LightHours x = small();
        x.show(0, 0, 3);
        x.lend(0, 2, 20);
        x.past(0, 0, 2000);
        x.thread(0, 3, 4);
        Due.is("pastOf(0, false): 80 less 70", x.pastOf(0, false), 10);
        Due.is("pastOf(0, true): 159 less 20", x.pastOf(0, true), 139);
        x.reading(0, 3, 30);
        Due.is("pastOf(0, false): 80 less 50", x.pastOf(0, false), 30);
        Due.is("pastOf(0, true): 159 less 50", x.pastOf(0, true), 109);
    }

    @Sentence(in = "Terms 2", says = "what its told PAST and all its THREADS let it be")
    private static void pastNeverGoesBelowNoughtOrBeyondWhatIsTold() {
        LightHours x = small();
        x.show(0, 0, 0);
        x.past(0, 0, 15);
        x.thread(0, 0, 2);
        Due.is("pastOf(0, false): 20 less 50 is below 0", x.pastOf(0, false), 0);
        Due.is("pastOf(0, true): 39 is beyond 15", x.pastOf(0, true), 15);
        Due.is("of(0, 5)", x.of(0, 5), 0);
    }

    @Sentence(in = "Terms 2", says = "what its told PAST and all its THREADS let it be")
    private static void everyThreadOfTheSheetNarrowsItsPast() {
        LightHours x = small();
        x.sheet(1000, 1, 1, 0);
        x.lend(0, 4, 25);
        x.lend(0, 6, 30);
        x.past(0, 0, 2000);
        x.past(1, 0, 2000);
        x.thread(0, 0, 3);
        x.thread(1, 0, 7);
        x.thread(0, 4, 4);
        x.thread(0, 6, 4);
        Due.is("pastOf(0, false): of 40, 55, 25", x.pastOf(0, false), 55);
        Due.is("pastOf(0, true): of 79, 134, 104", x.pastOf(0, true), 79);
        Due.is("pastOf(1, false) of another's own", x.pastOf(1, false), 640);
        x.cut();
        x.cut();
        Due.is("pastOf(0, false) by the first alone", x.pastOf(0, false), 40);
    }

    @Sentence(in = "Terms 2", says = "if that is nothing the THREADS QUARREL, and it is as told")
    private static void oneNumberIsEnoughNotToQuarrel() {
        LightHours x = small();
        x.past(0, 19, 100);
        x.thread(0, 0, 1);
        Due.is("of(0, 5) of 19 to 19", x.of(0, 5), 0);
        Due.is("pastOf(0, true)", x.pastOf(0, true), 19);
        x.past(0, 20, 100);
        Due.is("of(0, 5) of 20 to 19", x.of(0, 5), 1);
        Due.is("pastOf(0, false) as told", x.pastOf(0, false), 20);
        Due.is("pastOf(0, true) as told", x.pastOf(0, true), 100);
        x.past(0, 0, 10);
        Due.is("of(0, 5) of 10 to 10", x.of(0, 5), 0);
        Due.is("pastOf(0, false)", x.pastOf(0, false), 10);
        x.past(0, 0, 9);
        Due.is("of(0, 5) of 10 to 9", x.of(0, 5), 1);
        Due.is("pastOf(0, false) as told", x.pastOf(0, false), 0);
        Due.is("pastOf(0, true) as told", x.pastOf(0, true), 9);
    }

    @Sentence(in = "Terms 2", says = "if that is nothing the THREADS QUARREL, and it is as told")
    private static void twoThreadsSideBySideQuarrelAndTheThirdCountsNoMore() {
        LightHours x = small();
        x.past(0, 0, 500);
        x.thread(0, 0, 1);
        x.thread(0, 1, 1);
        Due.is("of(0, 5) of the same STEP", x.of(0, 5), 0);
        x.thread(0, 2, 2);
        Due.is("of(0, 5) of 10 to 19 and 20 to 39", x.of(0, 5), 1);
        Due.is("pastOf(0, false)", x.pastOf(0, false), 0);
        Due.is("pastOf(0, true)", x.pastOf(0, true), 500);
        Due.is("left(0, false)", x.left(0, false), 500);
        Due.is("spent(0, 0, true)", x.spent(0, 0, true), 500);
        Due.is("many(6)", x.many(6), 1);
        x.cut();
        Due.is("of(0, 5) with the last cut", x.of(0, 5), 0);
        Due.is("pastOf(0, true) with the last cut", x.pastOf(0, true), 19);
    }

    @Sentence(in = "Terms 2", says = "if that is nothing the THREADS QUARREL, and it is as told")
    private static void aThreadThatLetsOnlyWhatIsBelowNoughtQuarrels() {
        LightHours x = small();
        x.lend(0, 0, 9);
        x.past(0, 0, 2000);
        x.thread(0, 0, 0);
        Due.is("of(0, 5) of 0 to 0", x.of(0, 5), 0);
        Due.is("pastOf(0, true)", x.pastOf(0, true), 0);
        x.past(0, 0, 0);
        x.lend(0, 0, 1);
        x.past(0, 0, 2000);
        Due.is("of(0, 5) of 0 to -1", x.of(0, 5), 1);
        Due.is("pastOf(0, true)", x.pastOf(0, true), 2000);
    }

    @Sentence(in = "Terms 2", says = "its BOOKINGS (not CANCELLED) of that YEAR or earlier ones SPEND, together")
    private static void spentCountsBookingsUpToItsYear() {
        for (int booked = 0; booked <= 9; booked++) {
            LightHours x = small();
            x.past(0, 3, 6);
            x.show(0, 0, booked);
            x.lend(0, booked, 10);
            for (int year = 0; year <= 9; year++) {
                Due.is("spent(0, " + year + ", false)", x.spent(0, year, false), year >= booked ? 13 : 3);
                Due.is("spent(0, " + year + ", true)", x.spent(0, year, true), year >= booked ? 66 : 6);
            }
            x.cancel(0);
            Due.is("spent(0, 9, true) with the SHOW cancelled", x.spent(0, 9, true), 16);
            x.cancel(1);
            Due.is("spent(0, 9, true) with both cancelled", x.spent(0, 9, true), 6);
        }
    }

    @Sentence(in = "Terms 2", says = "LEFT: its LIMIT less what is SPENT with YEAR 9")
    private static void leftCountsAllYears() {
        LightHours x = small();
        x.lend(0, 9, 100);
        x.lend(0, 0, 10);
        Due.is("left(0, false)", x.left(0, false), 890);
        Due.is("left(0, true)", x.left(0, true), 890);
    }

    @Sentence(in = "Terms 2", says = "it may be below 0")
    private static void leftGoesThroughNought() {
        LightHours x = small();
        x.past(0, 999, 1000);
        Due.is("left(0, false)", x.left(0, false), 0);
        Due.is("left(0, true)", x.left(0, true), 1);
        x.past(0, 1000, 1001);
        Due.is("left(0, false)", x.left(0, false), -1);
        Due.is("left(0, true)", x.left(0, true), 0);
        x.past(0, 1001, 2000);
        Due.is("left(0, false)", x.left(0, false), -1000);
        Due.is("left(0, true)", x.left(0, true), -1);
    }

    // ---- Terms 3

    @Sentence(in = "Terms 3", says = "WALLS are numbered from 0 as they come, 5 at most")
    private static void wallsAreNumberedAndNoMoreThanFive() {
        LightHours x = small();
        for (int wall = 0; wall < 5; wall++) {
            Due.is("wall " + wall, x.wall(0, wall, 0), wall);
            Due.is("many(5)", x.many(5), wall + 1);
            Due.is("hung of the wall behind", x.hung(wall + 1), Due.NUMBER);
        }
        Due.is("a wall too many", x.wall(0, 9, 0), Due.FULL);
        Due.is("many(5)", x.many(5), 5);
        Due.is("worth()", x.worth(), 25);
    }

    @Sentence(in = "Terms 3", says = "wanting a THEME (0 to 3)")
    private static void themeGoesFromNoughtToThree() {
        for (int good = 0; good <= 3; good++) {
            Due.is("wall(0, 0, " + good + ")", small().wall(0, 0, good), 0);
        }
        for (int bad : new int[] {Due.MIN, -2, -1, 4, 5, Due.MAX}) {
            refusedBySmall("wall(0, 0, " + bad + ")", x -> x.wall(0, 0, bad), Due.NUMBER);
        }
    }

    @Sentence(in = "Terms 3", says = "A HANG gives each WALL a SHEET that has the THEME, or nothing")
    private static void aWallThatNoSheetSuitsStaysEmpty() {
        LightHours x = new LightHours();
        x.room(10);
        x.wall(0, 0, 3);
        Due.is("hung(0) without SHEETS", x.hung(0), Due.NONE);
        x.sheet(100, 7, 9, 0);
        Due.is("hung(0) without the THEME", x.hung(0), Due.NONE);
        x.sheet(100, 8, 1, 0);
        Due.is("hung(0) with the THEME", x.hung(0), 1);
    }

    @Sentence(in = "Terms 3", says = "no SHEET twice in one YEAR")
    private static void noSheetHangsTwiceInOneYear() {
        LightHours x = small();
        x.room(50);
        x.wall(0, 4, 0);
        x.wall(1, 4, 1);
        Due.is("hung(0)", x.hung(0), 0);
        Due.is("hung(1) in another ROOM", x.hung(1), Due.NONE);
        x.strip();
        x.wall(0, 4, 0);
        Due.is("hung(1) in the same ROOM", x.hung(1), Due.NONE);
        x.strip();
        x.wall(0, 5, 0);
        Due.is("hung(1) in another YEAR", x.hung(1), 0);
    }

    @Sentence(in = "Terms 3", says = "or in YEARS with fewer than REST others between (REST 0: it may each YEAR; REST 1: one YEAR between at least)")
    private static void twoWallsOfOneSheetKeepItsRest() {
        for (int rest = 0; rest <= 3; rest++) {
            for (int one = 0; one <= 9; one++) {
                for (int other = 0; other <= 9; other++) {
                    LightHours x = new LightHours();
                    x.room(1);
                    x.sheet(100, 1, 1, rest);
                    x.wall(0, one, 0);
                    x.wall(0, other, 0);
                    int between = Math.abs(one - other) - 1;
                    boolean both = one != other && between >= rest;
                    Due.is("hung(0)", x.hung(0), 0);
                    Due.is("hung(1), REST " + rest + ", YEARS " + one + " and " + other, x.hung(1), both ? 0 : Due.NONE);
                }
            }
        }
    }

    @Sentence(in = "Terms 3", says = "REST 0: it may each YEAR")
    private static void withRestNoughtASheetHangsEachYear() {
        LightHours x = small();
        for (int wall = 0; wall < 5; wall++) {
            x.wall(0, 9 - wall, 0);
        }
        for (int wall = 0; wall < 5; wall++) {
            Due.is("hung(" + wall + ")", x.hung(wall), 0);
        }
    }

    @Sentence(in = "Terms 3", says = "counting its SHOWS, too (not CANCELLED)")
    private static void aWallAndAShowKeepTheRest() {
        for (int rest = 0; rest <= 3; rest++) {
            for (int shown = 0; shown <= 9; shown++) {
                LightHours x = new LightHours();
                x.room(1);
                x.sheet(100, 1, 1, rest);
                x.wall(0, 4, 0);
                x.show(0, 0, shown);
                int between = Math.abs(shown - 4) - 1;
                boolean may = shown != 4 && between >= rest;
                Due.is("hung(0), REST " + rest + ", shown in YEAR " + shown, x.hung(0), may ? 0 : Due.NONE);
                x.cancel(0);
                Due.is("hung(0) with the SHOW cancelled", x.hung(0), 0);
                x.lend(0, shown, 1);
                Due.is("hung(0) with a LOAN", x.hung(0), 0);
            }
        }
    }

    @Sentence(in = "Terms 3", says = "counting its SHOWS, too")
    private static void theShowsOfAnotherSheetDoNotCount() {
        LightHours x = small();
        x.sheet(1000, 15, 5, 3);
        x.wall(0, 4, 0);
        x.show(1, 0, 4);
        x.show(1, 0, 5);
        Due.is("hung(0)", x.hung(0), 0);
        x.show(0, 0, 5);
        Due.is("hung(0) by its own REST 0", x.hung(0), 0);
        x.show(0, 0, 4);
        Due.is("hung(0) with its own SHOW", x.hung(0), Due.NONE);
    }

    @Sentence(in = "Terms 3", says = "no SHEET in a YEAR in which its SISTER is hung")
    private static void sistersDoNotHangInOneYear() {
        for (int away = 0; away <= 2; away++) {
            LightHours x = new LightHours();
            x.room(1);
            x.room(1);
            x.sheet(100, 1, 4, 3);
            x.sheet(100, 2, 4, 3);
            x.sisters(1, 0);
            x.wall(0, 5, 0);
            x.wall(1, 5 + away, 1);
            Due.is("hung(0)", x.hung(0), 0);
            Due.is("hung(1), " + away + " YEARS behind its SISTER", x.hung(1), away == 0 ? Due.NONE : 1);
        }
    }

    @Sentence(in = "Terms 3", says = "or SHOWN (not CANCELLED)")
    private static void aSheetDoesNotHangInAYearInWhichItsSisterIsShown() {
        for (int shown = 0; shown <= 9; shown++) {
            LightHours x = new LightHours();
            x.room(1);
            x.sheet(100, 1, 4, 0);
            x.sheet(100, 2, 4, 3);
            x.sisters(0, 1);
            x.wall(0, 5, 0);
            x.show(1, 0, shown);
            Due.is("hung(0), SISTER shown in YEAR " + shown, x.hung(0), shown == 5 ? Due.NONE : 0);
            x.cancel(0);
            Due.is("hung(0) with the SHOW cancelled", x.hung(0), 0);
            x.lend(1, 5, 1);
            Due.is("hung(0) with the SISTER lent", x.hung(0), 0);
        }
    }

    @Sentence(in = "Terms 3", says = "for no SHEET that is hung the greatest LIGHT of its WALLS, together, is above the least that is LEFT of it")
    private static void lightMayBeAllThatIsLeftAndNoMore() {
        LightHours x = new LightHours();
        x.room(50);
        x.sheet(100, 1, 1, 0);
        x.wall(0, 0, 0);
        x.past(0, 0, 50);
        Due.is("hung(0) of 50 for 50", x.hung(0), 0);
        x.past(0, 0, 51);
        Due.is("hung(0) of 49 for 50", x.hung(0), Due.NONE);
        x.reading(0, 0, 49);
        Due.is("hung(0) of 49 for 49", x.hung(0), 0);
        x.past(0, 0, 0);
        x.reading(0, 0, -1);
        x.wall(0, 1, 0);
        Due.is("worth() of 100 for 50 and 50", x.worth(), 2);
        x.past(0, 0, 1);
        Due.is("worth() of 99 for 50 and 50", x.worth(), 1);
    }

    @Sentence(in = "Terms 3", says = "for no SHEET that is hung the greatest LIGHT of its WALLS, together, is above the least that is LEFT of it")
    private static void noLightMayBeShownToASheetOfWhichNoughtIsLeftButNotToOneBelow() {
        LightHours x = new LightHours();
        x.room(50);
        x.sheet(100, 1, 1, 0);
        x.reading(0, 0, 0);
        x.wall(0, 0, 0);
        x.past(0, 0, 100);
        Due.is("hung(0) of 0 for 0", x.hung(0), 0);
        x.past(0, 0, 101);
        Due.is("hung(0) of -1 for 0", x.hung(0), Due.NONE);
    }

    @Sentence(in = "Terms 3", says = "for no SHEET that is hung")
    private static void aSheetThatIsNotHungMayBeSpent() {
        LightHours x = small();
        x.sheet(1, 1, 9, 0);
        x.past(1, 2000, 2000);
        x.wall(0, 0, 0);
        Due.is("left(1, true)", x.left(1, true), -1999);
        Due.is("hung(0)", x.hung(0), 0);
        Due.is("worth()", x.worth(), 5);
    }

    @Sentence(in = "Terms 3", says = "Its WORTH: the VALUES of the SHEETS of all WALLS, together.")
    private static void aSheetCountsForEachOfItsWalls() {
        LightHours x = small();
        x.sheet(1000, 15, 3, 0);
        x.wall(0, 0, 0);
        x.wall(0, 1, 0);
        x.wall(0, 1, 1);
        Due.is("worth()", x.worth(), 13);
        Due.is("hung(2)", x.hung(2), 1);
    }

    @Sentence(in = "Terms 3", says = "THE HANG has the greatest WORTH")
    private static void theGreatestWorthGoesBeforeTheLesserSheet() {
        LightHours x = new LightHours();
        x.room(10);
        x.sheet(10, 3, 4, 0);
        x.sheet(10, 1, 4, 0);
        x.wall(0, 0, 0);
        x.wall(0, 1, 1);
        Due.is("hung(0)", x.hung(0), 1);
        Due.is("hung(1)", x.hung(1), 0);
        LightHours y = new LightHours();
        y.room(10);
        y.sheet(10, 1, 5, 0);
        y.sheet(10, 3, 5, 0);
        y.sheet(10, 2, 6, 0);
        y.sisters(0, 2);
        y.wall(0, 0, 0);
        y.wall(0, 0, 1);
        Due.is("hung(0) for 11", y.hung(0), 1);
        Due.is("hung(1) for 11", y.hung(1), 2);
    }

    @Sentence(in = "Terms 3", says = "of several it is the one in which the first WALL for which they are unlike has the lesser SHEET")
    private static void ofSeveralTheFirstWallHasTheLesserSheet() {
        LightHours x = new LightHours();
        x.room(10);
        for (int sheet = 0; sheet < 8; sheet++) {
            x.sheet(1000, 1, 5, 0);
        }
        for (int wall = 0; wall < 5; wall++) {
            x.wall(0, 0, 0);
        }
        for (int wall = 0; wall < 5; wall++) {
            Due.is("hung(" + wall + ")", x.hung(wall), wall);
        }
    }

    @Sentence(in = "Terms 3", says = "the first WALL for which they are unlike has the lesser SHEET")
    private static void theFirstWallDecidesThoughALaterOneStaysEmpty() {
        LightHours x = new LightHours();
        x.room(10);
        x.sheet(100, 1, 5, 0);
        x.sheet(100, 1, 2, 0);
        x.sheet(100, 2, 3, 0);
        x.sisters(0, 2);
        x.wall(0, 0, 0);
        x.wall(0, 0, 1);
        Due.is("worth()", x.worth(), 5);
        Due.is("hung(0)", x.hung(0), 0);
        Due.is("hung(1)", x.hung(1), Due.NONE);
    }

    @Sentence(in = "Terms 3", says = "the first WALL for which they are unlike")
    private static void theFirstWallIsTheOneOfTheLeastNumberNotOfTheFirstYear() {
        LightHours x = new LightHours();
        x.room(10);
        x.sheet(10, 1, 5, 0);
        x.wall(0, 9, 0);
        x.wall(0, 0, 0);
        Due.is("hung(0)", x.hung(0), 0);
        Due.is("hung(1)", x.hung(1), Due.NONE);
    }

    @Sentence(in = "Terms 3", says = "the first WALL for which they are unlike")
    private static void theLastWallDecidesWhereAllOthersAreAlike() {
        LightHours x = new LightHours();
        x.room(10);
        x.sheet(1000, 1, 9, 0);
        x.sheet(1000, 2, 1, 0);
        x.sheet(1000, 2, 1, 0);
        for (int year = 0; year < 4; year++) {
            x.wall(0, year, 0);
        }
        x.wall(0, 4, 1);
        Due.is("hung(4)", x.hung(4), 1);
        x.past(1, 1000, 1000);
        Due.is("hung(4) with the lesser one spent", x.hung(4), 2);
        Due.is("hung(3)", x.hung(3), 0);
    }

    @Sentence(in = "Terms 3", says = "nothing stands behind all")
    private static void theGreatestSheetStandsAheadOfNothing() {
        LightHours x = new LightHours();
        x.room(10);
        for (int sheet = 0; sheet < 7; sheet++) {
            x.sheet(10, 2, 5, 0);
        }
        x.sheet(10, 1, 5, 0);
        x.sisters(0, 7);
        for (int sheet = 1; sheet < 7; sheet++) {
            x.past(sheet, 10, 10);
        }
        x.wall(0, 0, 0);
        x.wall(0, 0, 1);
        Due.is("hung(0): SHEET 7, or nothing with SHEET 0 on the WALL behind", x.hung(0), 7);
        Due.is("hung(1)", x.hung(1), Due.NONE);
        Due.is("worth()", x.worth(), 5);
    }

    // ---- the constants

    @Sentence(in = "Terms 3", says = "The constants")
    private static void theConstantsAreAsWritten() {
        Due.is("NUMBER", LightHours.NUMBER, -1);
        Due.is("FULL", LightHours.FULL, -2);
        Due.is("TWICE", LightHours.TWICE, -3);
        Due.is("NONE", LightHours.NONE, -4);
        Due.is("NOTHING", LightHours.NOTHING, -1000000);
    }
}
