/** Promises 9 to 19 of DOC.md: a test for each sentence that names a boundary case. */
public final class BookingsAndThreadsTest {
    private static final int[] T = {0, 10, 20, 40, 80, 160, 320, 640};

    public static void main(String[] args) {
        Due.runAll(BookingsAndThreadsTest.class);
    }

    /** ROOMS of WORST 50 and 100, and two SHEETS of LIMIT 1000 with all THEMES, REST 0 and 1. */
    private static LightHours house() {
        LightHours x = new LightHours();
        x.room(50);
        x.room(100);
        x.sheet(1000, 15, 5, 0);
        x.sheet(1000, 15, 4, 1);
        return x;
    }

    /** The house with so many LOANS of 1 of SHEET 1 in YEAR 0. */
    private static LightHours withLoans(int count) {
        LightHours x = house();
        for (int loan = 0; loan < count; loan++) {
            x.lend(1, 0, 1);
        }
        return x;
    }

    // ---- Promise 9

    @Sentence(in = "Promise 9", says = "A SHOW: the BOOKING's number.")
    private static void aShowAnswersItsNumber() {
        for (int there : new int[] {0, 1, 28, 29}) {
            LightHours x = withLoans(there);
            Due.is("show(0, 1, 9) behind " + there, x.show(0, 1, 9), there);
            int[] due = {0, 0, 1, 9, 0, 100, 0};
            for (int what = 0; what <= 6; what++) {
                Due.is("booking(" + there + ", " + what + ")", x.booking(there, what), due[what]);
            }
            Due.is("many(2)", x.many(2), there + 1);
        }
    }

    @Sentence(in = "Promise 9", says = "A SHOW: the BOOKING's number.")
    private static void aShowAsksForNeitherRestNorSisterNorLight() {
        LightHours x = new LightHours();
        x.room(200);
        x.sheet(1, 1, 1, 3);
        x.sheet(1, 1, 1, 3);
        x.sisters(0, 1);
        Due.is("show(0, 0, 4)", x.show(0, 0, 4), 0);
        Due.is("show(0, 0, 5) against its REST", x.show(0, 0, 5), 1);
        Due.is("show(1, 0, 4) beside its SISTER", x.show(1, 0, 4), 2);
        Due.is("left(0, false) of a LIMIT of 1", x.left(0, false), -399);
    }

    @Sentence(in = "Promise 9", says = "NUMBER: there is no such SHEET, ROOM, YEAR")
    private static void aShowNeedsASheetARoomAndAYear() {
        for (int bad : new int[] {Due.MIN, -1, 2, 4, 8, Due.MAX}) {
            Due.is("show(" + bad + ", 0, 0)", house().show(bad, 0, 0), Due.NUMBER);
            Due.is("show(0, " + bad + ", 0)", house().show(0, bad, 0), Due.NUMBER);
        }
        Due.is("show(0, NONE, 0)", house().show(0, Due.NONE, 0), Due.NUMBER);
        for (int bad : new int[] {Due.MIN, -1, 10, Due.MAX}) {
            Due.is("show(0, 0, " + bad + ")", house().show(0, 0, bad), Due.NUMBER);
        }
    }

    @Sentence(in = "Promise 9", says = "TWICE: that SHEET has a SHOW (not CANCELLED) in that YEAR")
    private static void aSheetIsShownOnceAYear() {
        LightHours x = house();
        for (int year = 0; year <= 9; year++) {
            Due.is("show(0, 0, " + year + ")", x.show(0, 0, year), year);
        }
        for (int year = 0; year <= 9; year++) {
            Due.is("show(0, 0, " + year + ") again", x.show(0, 0, year), Due.TWICE);
            Due.is("show(0, 1, " + year + ") in the other ROOM", x.show(0, 1, year), Due.TWICE);
        }
        Due.is("show(1, 0, 0) of the other SHEET", x.show(1, 0, 0), 10);
    }

    @Sentence(in = "Promise 9", says = "TWICE: that SHEET has a SHOW (not CANCELLED) in that YEAR")
    private static void aCancelledShowAndALoanAreNoShowInThatYear() {
        LightHours x = house();
        x.lend(0, 3, 1);
        Due.is("show(0, 0, 3) beside a LOAN", x.show(0, 0, 3), 1);
        Due.is("show(0, 0, 3)", x.show(0, 0, 3), Due.TWICE);
        x.cancel(1);
        Due.is("show(0, 0, 3) with the first cancelled", x.show(0, 0, 3), 2);
        Due.is("show(0, 0, 3)", x.show(0, 0, 3), Due.TWICE);
        x.cancel(0);
        Due.is("show(0, 0, 3) with the LOAN cancelled", x.show(0, 0, 3), Due.TWICE);
    }

    @Sentence(in = "Promise 9", says = "TWICE: that SHEET has a SHOW (not CANCELLED) in that YEAR")
    private static void aShowThatHangBookedCountsToo() {
        LightHours x = house();
        x.wall(1, 6, 0);
        Due.is("hang()", x.hang(), 1);
        Due.is("show(0, 0, 6)", x.show(0, 0, 6), Due.TWICE);
        Due.is("show(0, 0, 5)", x.show(0, 0, 5), 1);
    }

    @Sentence(in = "Promise 9", says = "FULL")
    private static void aThirtyFirstShowIsNotBooked() {
        LightHours x = withLoans(30);
        Due.is("show(0, 0, 0)", x.show(0, 0, 0), Due.FULL);
        Due.is("many(2)", x.many(2), 30);
        Due.is("of(0, 6)", x.of(0, 6), 0);
        x.cancel(29);
        Due.is("show(0, 0, 0) with one cancelled", x.show(0, 0, 0), Due.FULL);
        Due.is("booking(29, 0)", x.booking(29, 0), 1);
    }

    // ---- Promise 10

    @Sentence(in = "Promise 10", says = "A LOAN: the BOOKING's number.")
    private static void aLoanAnswersItsNumber() {
        for (int there : new int[] {0, 1, 28, 29}) {
            LightHours x = withLoans(there);
            Due.is("lend(0, 9, 500) behind " + there, x.lend(0, 9, 500), there);
            int[] due = {1, 0, Due.NONE, 9, 500, 500, 0};
            for (int what = 0; what <= 6; what++) {
                Due.is("booking(" + there + ", " + what + ")", x.booking(there, what), due[what]);
            }
        }
    }

    @Sentence(in = "Promise 10", says = "A LOAN: the BOOKING's number.")
    private static void aSheetMayBeLentTwiceAYearAndWhileItIsShown() {
        LightHours x = house();
        x.show(0, 0, 2);
        Due.is("lend(0, 2, 1)", x.lend(0, 2, 1), 1);
        Due.is("lend(0, 2, 1) again", x.lend(0, 2, 1), 2);
    }

    @Sentence(in = "Promise 10", says = "NUMBER: there is no such SHEET, YEAR, or amount isn't 1 to 500")
    private static void aLoanNeedsASheetAYearAndAnAmount() {
        for (int bad : new int[] {Due.MIN, -1, 2, 8, Due.MAX}) {
            Due.is("lend(" + bad + ", 0, 1)", house().lend(bad, 0, 1), Due.NUMBER);
        }
        for (int bad : new int[] {Due.MIN, -1, 10, Due.MAX}) {
            Due.is("lend(0, " + bad + ", 1)", house().lend(0, bad, 1), Due.NUMBER);
        }
        for (int bad : new int[] {Due.MIN, -1, 0, 501, Due.MAX}) {
            Due.is("lend(0, 0, " + bad + ")", house().lend(0, 0, bad), Due.NUMBER);
        }
    }

    @Sentence(in = "Promise 10", says = "NONE: the least that is LEFT is below the amount")
    private static void aLoanMayTakeAllThatIsLeftAndNoMore() {
        LightHours x = house();
        x.past(0, 0, 900);
        Due.is("lend(0, 0, 101) of 100 to 1000", x.lend(0, 0, 101), Due.NONE);
        Due.is("lend(0, 0, 100) of 100 to 1000", x.lend(0, 0, 100), 0);
        Due.is("left(0, false)", x.left(0, false), 0);
        Due.is("lend(0, 0, 1) of 0 to 900", x.lend(0, 0, 1), Due.NONE);
        x.past(0, 0, 901);
        Due.is("lend(0, 0, 1) of less than 0", x.lend(0, 0, 1), Due.NONE);
        x.past(0, 0, 899);
        Due.is("lend(0, 0, 1) of 1", x.lend(0, 0, 1), 1);
    }

    @Sentence(in = "Promise 10", says = "NONE: the least that is LEFT is below the amount")
    private static void whatIsLeftForALoanCountsTheBookingsOfLaterYears() {
        LightHours x = house();
        x.past(0, 0, 450);
        x.show(0, 0, 9);
        Due.is("lend(0, 0, 500) of 500", x.lend(0, 0, 500), 1);
        Due.is("lend(0, 0, 1) of 0", x.lend(0, 0, 1), Due.NONE);
        x.reading(0, 9, 49);
        Due.is("lend(0, 0, 2) of 1", x.lend(0, 0, 2), Due.NONE);
        Due.is("lend(0, 0, 1) of 1", x.lend(0, 0, 1), 2);
        x.cancel(0);
        Due.is("lend(0, 9, 50) of 49", x.lend(0, 9, 50), Due.NONE);
        Due.is("lend(0, 9, 49) of 49", x.lend(0, 9, 49), 3);
    }

    @Sentence(in = "Promise 10", says = "NONE: the least that is LEFT is below the amount")
    private static void wallsTakeNothingFromWhatMayBeLent() {
        LightHours x = new LightHours();
        x.room(200);
        x.sheet(200, 1, 1, 0);
        x.wall(0, 0, 0);
        Due.is("hung(0)", x.hung(0), 0);
        Due.is("lend(0, 0, 200)", x.lend(0, 0, 200), 0);
        Due.is("hung(0) with nothing left", x.hung(0), Due.NONE);
    }

    @Sentence(in = "Promise 10", says = "FULL")
    private static void aThirtyFirstLoanIsNotBooked() {
        LightHours x = withLoans(30);
        Due.is("lend(0, 0, 1)", x.lend(0, 0, 1), Due.FULL);
        Due.is("lend(0, 9, 500)", x.lend(0, 9, 500), Due.FULL);
        Due.is("many(2)", x.many(2), 30);
        Due.is("left(0, false)", x.left(0, false), 1000);
        x.cancel(0);
        Due.is("lend(0, 0, 1) with one cancelled", x.lend(0, 0, 1), Due.FULL);
    }

    // ---- Promise 11

    @Sentence(in = "Promise 11", says = "How much the least that is LEFT of a SHEET lacks for an amount (0: nothing).")
    private static void lacksIsNoughtWhereEnoughIsLeft() {
        LightHours x = house();
        x.past(0, 100, 700);
        Due.is("lacks(0, 299) of 300", x.lacks(0, 299), 0);
        Due.is("lacks(0, 300) of 300", x.lacks(0, 300), 0);
        Due.is("lacks(0, 301) of 300", x.lacks(0, 301), 1);
        Due.is("lacks(0, 500) of 300", x.lacks(0, 500), 200);
        Due.is("lacks(0, 1) of 300", x.lacks(0, 1), 0);
    }

    @Sentence(in = "Promise 11", says = "How much the least that is LEFT of a SHEET lacks for an amount")
    private static void lacksIsMoreThanTheAmountWhereLessThanNoughtIsLeft() {
        LightHours x = house();
        x.past(0, 0, 1000);
        Due.is("lacks(0, 1) of 0", x.lacks(0, 1), 1);
        Due.is("lacks(0, 500) of 0", x.lacks(0, 500), 500);
        x.past(0, 0, 1001);
        Due.is("lacks(0, 1) of -1", x.lacks(0, 1), 2);
        x.past(0, 2000, 2000);
        Due.is("lacks(0, 500) of -1000", x.lacks(0, 500), 1500);
    }

    @Sentence(in = "Promise 11", says = "How much the least that is LEFT of a SHEET lacks for an amount")
    private static void lacksAsksNothingOfHowManyBookingsThereAre() {
        LightHours x = withLoans(30);
        Due.is("lacks(0, 500) when there are 30 BOOKINGS", x.lacks(0, 500), 0);
        Due.is("lacks(1, 500)", x.lacks(1, 500), 0);
        Due.is("many(2): nothing is booked", x.many(2), 30);
    }

    @Sentence(in = "Promise 11", says = "NUMBER: there is none such, or amount isn't 1 to 500.")
    private static void lacksNeedsASheetAndAnAmount() {
        LightHours x = house();
        for (int bad : new int[] {Due.MIN, -1, 2, 8, Due.MAX}) {
            Due.is("lacks(" + bad + ", 1)", x.lacks(bad, 1), Due.NUMBER);
        }
        for (int bad : new int[] {Due.MIN, -1, 0, 501, Due.MAX}) {
            Due.is("lacks(0, " + bad + ")", x.lacks(0, bad), Due.NUMBER);
        }
    }

    // ---- Promise 12

    @Sentence(in = "Promise 12", says = "A BOOKING is CANCELLED: 1.")
    private static void aCancelledBookingSpendsNoMore() {
        LightHours x = house();
        x.show(0, 0, 0);
        x.lend(0, 9, 40);
        Due.is("cancel(1)", x.cancel(1), 1);
        Due.is("left(0, false)", x.left(0, false), 950);
        Due.is("booking(1, 6)", x.booking(1, 6), 1);
        Due.is("booking(0, 6)", x.booking(0, 6), 0);
        Due.is("cancel(0)", x.cancel(0), 1);
        Due.is("left(0, false)", x.left(0, false), 1000);
        Due.is("many(2)", x.many(2), 2);
        Due.is("many(3)", x.many(3), 2);
    }

    @Sentence(in = "Promise 12", says = "NUMBER: there is none such")
    private static void whatIsCancelledMustBeThere() {
        for (int there : new int[] {0, 1, 29, 30}) {
            LightHours x = withLoans(there);
            for (int bad : new int[] {Due.MIN, -1, there, 30, 31, Due.MAX}) {
                Due.is("cancel(" + bad + ") of " + there, x.cancel(bad), Due.NUMBER);
            }
            Due.is("many(3)", x.many(3), 0);
            if (there > 0) {
                Due.is("cancel of the last of " + there, x.cancel(there - 1), 1);
                Due.is("many(3)", x.many(3), 1);
            }
        }
    }

    @Sentence(in = "Promise 12", says = "TWICE")
    private static void noBookingIsCancelledTwice() {
        LightHours x = withLoans(2);
        Due.is("cancel(0)", x.cancel(0), 1);
        Due.is("cancel(0) again", x.cancel(0), Due.TWICE);
        Due.is("cancel(1)", x.cancel(1), 1);
        Due.is("cancel(0) once more", x.cancel(0), Due.TWICE);
        Due.is("many(3)", x.many(3), 2);
        Due.is("booking(0, 6)", x.booking(0, 6), 1);
    }

    // ---- Promise 13

    @Sentence(in = "Promise 13", says = "what = 0 0 a SHOW, 1 a LOAN, 1 its SHEET, 2 its ROOM (NONE of a LOAN), 3 YEAR")
    private static void bookingTellsOfAShowAndOfALoan() {
        LightHours x = house();
        x.show(1, 0, 9);
        x.lend(1, 0, 3);
        int[] ofShow = {0, 1, 0, 9};
        int[] ofLoan = {1, 1, Due.NONE, 0};
        for (int what = 0; what < 4; what++) {
            Due.is("booking(0, " + what + ") of a SHOW", x.booking(0, what), ofShow[what]);
            Due.is("booking(1, " + what + ") of a LOAN", x.booking(1, what), ofLoan[what]);
        }
    }

    @Sentence(in = "Promise 13", says = "4, 5 the least, the greatest that it SPENDS")
    private static void bookingTellsWhatItSpends() {
        LightHours x = house();
        x.show(0, 1, 4);
        x.lend(0, 4, 500);
        Due.is("booking(0, 4)", x.booking(0, 4), 0);
        Due.is("booking(0, 5)", x.booking(0, 5), 100);
        x.reading(1, 4, 100);
        Due.is("booking(0, 4) read as WORST", x.booking(0, 4), 100);
        x.reading(1, 4, 0);
        Due.is("booking(0, 5) read as 0", x.booking(0, 5), 0);
        Due.is("booking(1, 4)", x.booking(1, 4), 500);
        Due.is("booking(1, 5)", x.booking(1, 5), 500);
    }

    @Sentence(in = "Promise 13", says = "6 1 if it is CANCELLED, else 0")
    private static void bookingTellsWhetherItIsCancelledAndAllElseAsBefore() {
        LightHours x = house();
        x.show(0, 1, 4);
        x.lend(1, 5, 6);
        Due.is("booking(0, 6)", x.booking(0, 6), 0);
        x.cancel(0);
        x.cancel(1);
        int[] ofShow = {0, 0, 1, 4, 0, 100, 1};
        int[] ofLoan = {1, 1, Due.NONE, 5, 6, 6, 1};
        for (int what = 0; what <= 6; what++) {
            Due.is("booking(0, " + what + ")", x.booking(0, what), ofShow[what]);
            Due.is("booking(1, " + what + ")", x.booking(1, what), ofLoan[what]);
        }
    }

    @Sentence(in = "Promise 13", says = "NUMBER: there is none such, another what.")
    private static void bookingNeedsABookingAndAWhat() {
        for (int there : new int[] {0, 1, 29, 30}) {
            LightHours x = withLoans(there);
            for (int what = 0; what <= 6; what++) {
                for (int bad : new int[] {Due.MIN, -1, there, 30, 31, Due.MAX}) {
                    Due.is("booking(" + bad + ", " + what + ") of " + there, x.booking(bad, what), Due.NUMBER);
                }
            }
            for (int bad : new int[] {Due.MIN, -2, -1, 7, 8, Due.MAX}) {
                Due.is("booking(0, " + bad + ") of " + there, x.booking(0, bad), Due.NUMBER);
                Due.is("booking(" + there + ", " + bad + ")", x.booking(there, bad), Due.NUMBER);
            }
        }
    }

    // ---- Promise 14

    @Sentence(in = "Promise 14", says = "A THREAD: its number.")
    private static void aThreadAnswersItsNumber() {
        LightHours x = house();
        for (int thread = 0; thread < 12; thread++) {
            Due.is("thread " + thread, x.thread(thread % 2, 9 - thread % 10, 7), thread);
        }
        Due.is("of(0, 7)", x.of(0, 7), 6);
        Due.is("of(1, 7)", x.of(1, 7), 6);
    }

    @Sentence(in = "Promise 14", says = "A THREAD: its number.")
    private static void aThreadThatQuarrelsIsTakenToo() {
        LightHours x = house();
        Due.is("thread(0, 0, 0)", x.thread(0, 0, 0), 0);
        Due.is("thread(0, 0, 7) that quarrels", x.thread(0, 0, 7), 1);
        Due.is("thread(0, 0, 0) once more", x.thread(0, 0, 0), 2);
        Due.is("of(0, 5)", x.of(0, 5), 1);
    }

    @Sentence(in = "Promise 14", says = "NUMBER: there is no such SHEET, YEAR, STEP")
    private static void aThreadNeedsASheetAYearAndAStep() {
        for (int bad : new int[] {Due.MIN, -1, 2, 8, Due.MAX}) {
            Due.is("thread(" + bad + ", 0, 0)", house().thread(bad, 0, 0), Due.NUMBER);
        }
        for (int bad : new int[] {Due.MIN, -1, 10, Due.MAX}) {
            Due.is("thread(0, " + bad + ", 0)", house().thread(0, bad, 0), Due.NUMBER);
        }
        for (int bad : new int[] {Due.MIN, -1, 8, Due.MAX}) {
            Due.is("thread(0, 0, " + bad + ")", house().thread(0, 0, bad), Due.NUMBER);
        }
    }

    @Sentence(in = "Promise 14", says = "FULL")
    private static void aThirteenthThreadDoesNotCome() {
        LightHours x = house();
        for (int thread = 0; thread < 12; thread++) {
            x.thread(0, 0, 0);
        }
        Due.is("thread(0, 0, 7)", x.thread(0, 0, 7), Due.FULL);
        Due.is("thread(1, 0, 0)", x.thread(1, 0, 0), Due.FULL);
        Due.is("many(4)", x.many(4), 12);
        Due.is("of(0, 5)", x.of(0, 5), 0);
        Due.is("of(1, 7)", x.of(1, 7), 0);
        x.cut();
        Due.is("thread(1, 0, 0) with one cut", x.thread(1, 0, 0), 11);
        Due.is("of(1, 7)", x.of(1, 7), 1);
    }

    // ---- Promise 15

    @Sentence(in = "Promise 15", says = "The latest THREAD is no more: how many there are.")
    private static void cutTakesTheLatestThread() {
        LightHours x = house();
        x.past(0, 0, 2000);
        for (int thread = 0; thread < 12; thread++) {
            x.thread(thread == 11 ? 0 : 1, 0, 0);
        }
        Due.is("pastOf(0, true)", x.pastOf(0, true), 9);
        Due.is("cut() of 12", x.cut(), 11);
        Due.is("pastOf(0, true)", x.pastOf(0, true), 2000);
        for (int left = 10; left >= 0; left--) {
            Due.is("cut()", x.cut(), left);
            Due.is("many(4)", x.many(4), left);
            Due.is("of(1, 7)", x.of(1, 7), left);
        }
    }

    @Sentence(in = "Promise 15", says = "NONE: there are none.")
    private static void cutOfNoneIsRefused() {
        LightHours x = house();
        Due.is("cut()", x.cut(), Due.NONE);
        x.thread(0, 0, 0);
        Due.is("cut() of one", x.cut(), 0);
        Due.is("cut()", x.cut(), Due.NONE);
        Due.is("many(4)", x.many(4), 0);
        Due.is("thread(0, 0, 0) behind it", x.thread(0, 0, 0), 0);
    }

    // ---- Promise 16

    @Sentence(in = "Promise 16", says = "PAST of a SHEET, the least or greatest.")
    private static void pastOfIsWhatToldAndThreadsLetItBe() {
        LightHours x = house();
        Due.is("pastOf(0, false) at first", x.pastOf(0, false), 0);
        Due.is("pastOf(0, true) at first", x.pastOf(0, true), 0);
        x.past(0, 15, 25);
        Due.is("pastOf(0, false) as told", x.pastOf(0, false), 15);
        Due.is("pastOf(0, true) as told", x.pastOf(0, true), 25);
        x.thread(0, 0, 1);
        Due.is("pastOf(0, false)", x.pastOf(0, false), 15);
        Due.is("pastOf(0, true) by a THREAD to 19", x.pastOf(0, true), 19);
        x.cut();
        x.thread(0, 0, 2);
        Due.is("pastOf(0, false) by a THREAD from 20", x.pastOf(0, false), 20);
        Due.is("pastOf(0, true)", x.pastOf(0, true), 25);
        x.cut();
        x.thread(0, 0, 3);
        Due.is("pastOf(0, false) as told, by a quarrel", x.pastOf(0, false), 15);
        Due.is("pastOf(0, true) as told, by a quarrel", x.pastOf(0, true), 25);
    }

    @Sentence(in = "Promise 16", says = "NUMBER: there is none such.")
    private static void pastOfNeedsASheet() {
        LightHours x = house();
        for (int bad : new int[] {Due.MIN, -1, 2, 8, Due.MAX}) {
            Due.is("pastOf(" + bad + ", false)", x.pastOf(bad, false), Due.NUMBER);
            Due.is("pastOf(" + bad + ", true)", x.pastOf(bad, true), Due.NUMBER);
        }
    }

    // ---- Promise 17

    @Sentence(in = "Promise 17", says = "SPENT of a SHEET with a YEAR, the least or greatest.")
    private static void spentIsPastAndBookingsTogether() {
        LightHours x = house();
        Due.is("spent(0, 0, true) of nothing", x.spent(0, 0, true), 0);
        x.past(0, 1, 2);
        x.show(0, 0, 0);
        x.show(0, 1, 9);
        Due.is("spent(0, 0, false)", x.spent(0, 0, false), 1);
        Due.is("spent(0, 0, true)", x.spent(0, 0, true), 52);
        Due.is("spent(0, 8, true)", x.spent(0, 8, true), 52);
        Due.is("spent(0, 9, true)", x.spent(0, 9, true), 152);
        x.reading(1, 9, 100);
        Due.is("spent(0, 8, false)", x.spent(0, 8, false), 1);
        Due.is("spent(0, 9, false)", x.spent(0, 9, false), 101);
        Due.is("spent(1, 9, true) of the other", x.spent(1, 9, true), 0);
    }

    @Sentence(in = "Promise 17", says = "SPENT of a SHEET with a YEAR, the least or greatest.")
    private static void spentMayBeMoreThanTheLimit() {
        LightHours x = house();
        x.past(0, 1000, 2000);
        x.show(0, 1, 0);
        Due.is("spent(0, 9, true)", x.spent(0, 9, true), 2100);
        Due.is("spent(0, 9, false)", x.spent(0, 9, false), 1000);
    }

    @Sentence(in = "Promise 17", says = "NUMBER: there is no such SHEET, YEAR.")
    private static void spentNeedsASheetAndAYear() {
        LightHours x = house();
        for (boolean greatest : new boolean[] {false, true}) {
            for (int bad : new int[] {Due.MIN, -1, 2, 8, Due.MAX}) {
                Due.is("spent(" + bad + ", 0, " + greatest + ")", x.spent(bad, 0, greatest), Due.NUMBER);
            }
            for (int bad : new int[] {Due.MIN, -1, 10, Due.MAX}) {
                Due.is("spent(0, " + bad + ", " + greatest + ")", x.spent(0, bad, greatest), Due.NUMBER);
            }
        }
    }

    // ---- Promise 18

    @Sentence(in = "Promise 18", says = "LEFT of a SHEET, the least or greatest.")
    private static void leftIsTheLimitAtFirst() {
        LightHours x = new LightHours();
        x.sheet(1, 1, 1, 0);
        x.sheet(2000, 1, 1, 0);
        Due.is("left(0, false)", x.left(0, false), 1);
        Due.is("left(0, true)", x.left(0, true), 1);
        Due.is("left(1, false)", x.left(1, false), 2000);
        Due.is("left(1, true)", x.left(1, true), 2000);
    }

    @Sentence(in = "Promise 18", says = "LEFT of a SHEET, the least or greatest.")
    private static void theLeastIsLeftWhereTheGreatestIsSpent() {
        LightHours x = house();
        x.past(0, 10, 30);
        x.show(0, 0, 9);
        x.lend(0, 0, 100);
        Due.is("left(0, false)", x.left(0, false), 820);
        Due.is("left(0, true)", x.left(0, true), 890);
    }

    @Sentence(in = "Promise 18", says = "LEFT of a SHEET, the least or greatest.")
    private static void leftOfMinusOneIsNoRefusal() {
        LightHours x = house();
        for (int below = 1; below <= 4; below++) {
            x.past(0, 1000 + below, 1000 + below);
            Due.is("left(0, false)", x.left(0, false), -below);
            Due.is("left(0, true)", x.left(0, true), -below);
        }
    }

    @Sentence(in = "Promise 18", says = "NOTHING: there is none such.")
    private static void leftOfNoSheetIsNothing() {
        LightHours x = house();
        for (int bad : new int[] {Due.MIN, -1, 2, 8, Due.MAX}) {
            Due.is("left(" + bad + ", false)", x.left(bad, false), Due.NOTHING);
            Due.is("left(" + bad + ", true)", x.left(bad, true), Due.NOTHING);
        }
    }

    // ---- Promise 19

    @Sentence(in = "Promise 19", says = "The least (false) or greatest STEP that a THREAD of a SHEET in a YEAR would have by what is SPENT then.")
    private static void stepChangesAtEachMark() {
        for (int step = 0; step <= 7; step++) {
            LightHours x = house();
            x.past(0, T[step], T[step]);
            Due.is("step(0, 0, false) of " + T[step], x.step(0, 0, false), step);
            Due.is("step(0, 0, true) of " + T[step], x.step(0, 0, true), step);
            if (step > 0) {
                x.past(0, T[step] - 1, T[step]);
                Due.is("step(0, 0, false) of " + (T[step] - 1), x.step(0, 0, false), step - 1);
                Due.is("step(0, 0, true) of " + T[step], x.step(0, 0, true), step);
            }
        }
    }

    @Sentence(in = "Promise 19", says = "by what is SPENT then")
    private static void stepGoesByWhatIsSpentWithItsYear() {
        LightHours x = house();
        x.past(0, 9, 9);
        x.lend(0, 5, 1);
        x.show(0, 0, 7);
        for (int year = 0; year <= 9; year++) {
            Due.is("step(0, " + year + ", false)", x.step(0, year, false), year >= 5 ? 1 : 0);
            Due.is("step(0, " + year + ", true)", x.step(0, year, true), year >= 7 ? 3 : year >= 5 ? 1 : 0);
        }
        x.cancel(0);
        Due.is("step(0, 5, true) with the LOAN cancelled", x.step(0, 5, true), 0);
    }

    @Sentence(in = "Promise 19", says = "STEP that a THREAD of a SHEET in a YEAR would have")
    private static void stepNeverGoesBeyondSeven() {
        LightHours x = house();
        x.past(0, 2000, 2000);
        x.show(0, 1, 0);
        Due.is("step(0, 9, false)", x.step(0, 9, false), 7);
        Due.is("step(0, 9, true)", x.step(0, 9, true), 7);
    }

    @Sentence(in = "Promise 19", says = "NUMBER: there is no such SHEET, YEAR.")
    private static void stepNeedsASheetAndAYear() {
        LightHours x = house();
        for (boolean greatest : new boolean[] {false, true}) {
            for (int bad : new int[] {Due.MIN, -1, 2, 8, Due.MAX}) {
                Due.is("step(" + bad + ", 0, " + greatest + ")", x.step(bad, 0, greatest), Due.NUMBER);
            }
            for (int bad : new int[] {Due.MIN, -1, 10, Due.MAX}) {
                Due.is("step(0, " + bad + ", " + greatest + ")", x.step(0, bad, greatest), Due.NUMBER);
            }
        }
    }
}
