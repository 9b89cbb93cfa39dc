import java.util.ArrayList;
import java.util.List;
import java.util.function.Consumer;
import java.util.function.ToIntFunction;

/** What DOC.md says of all refused calls: they change nothing, and of several refusals the first one named is answered. */
public final class RefusedTest {
    private record Refusal(String call, ToIntFunction<LightHours> asked, int due) { }

    private static final int[] ODD = {Due.MIN, -1000000, -5, -4, -2, -1, 0, 1, 2, 4, 5, 7, 8, 9, 10, 12, 15, 16, 30, 200, 201,
        500, 501, 2000, 2001, Due.MAX};

    public static void main(String[] args) {
        Due.runAll(RefusedTest.class);
    }

    // ---- a refused call changes nothing

    @Sentence(in = "Terms 3", says = "A call that is refused (answers below 0, where not told otherwise) changes nothing.")
    private static void refusedCallsLeaveAnEmptyHouseAsItWas() {
        List<Refusal> refusals = new ArrayList<>();
        noSuchNumbers(refusals, 0, 0, 0);
        wrongRooms(refusals);
        wrongSheets(refusals);
        refusals.add(new Refusal("sisters(0, 0)", x -> x.sisters(0, 0), Due.NUMBER));
        refusals.add(new Refusal("hung(0)", x -> x.hung(0), Due.NUMBER));
        refusals.add(new Refusal("cut()", x -> x.cut(), Due.NONE));
        refusals.add(new Refusal("strip()", x -> x.strip(), Due.NONE));
        refusals.add(new Refusal("back()", x -> x.back(), Due.NONE));
        changeNothing(Houses::empty, refusals);
    }

    @Sentence(in = "Terms 3", says = "A call that is refused (answers below 0, where not told otherwise) changes nothing.")
    private static void refusedCallsLeaveAnOrdinaryHouseAsItWas() {
        List<Refusal> refusals = new ArrayList<>();
        noSuchNumbers(refusals, 2, 3, 3);
        wrongRooms(refusals);
        wrongSheets(refusals);
        wrongOfThoseThere(refusals, 50);
        refusals.add(new Refusal("sisters(0, 2)", x -> x.sisters(0, 2), Due.TWICE));
        refusals.add(new Refusal("sisters(2, 1)", x -> x.sisters(2, 1), Due.TWICE));
        refusals.add(new Refusal("show(0, 1, 2)", x -> x.show(0, 1, 2), Due.TWICE));
        refusals.add(new Refusal("lend(2, 0, 1)", x -> x.lend(2, 0, 1), Due.NONE));
        refusals.add(new Refusal("lend(0, 0, 337)", x -> x.lend(0, 0, 337), Due.NONE));
        refusals.add(new Refusal("cancel(1)", x -> x.cancel(1), Due.TWICE));
        refusals.add(new Refusal("hung(2)", x -> x.hung(2), Due.NUMBER));
        refusals.add(new Refusal("hung(1)", x -> x.hung(1), Due.NONE));
        changeNothing(Houses::ordinary, refusals);
    }

    @Sentence(in = "Terms 3", says = "A call that is refused (answers below 0, where not told otherwise) changes nothing.")
    private static void refusedCallsLeaveAFullHouseAsItWas() {
        List<Refusal> refusals = new ArrayList<>();
        noSuchNumbers(refusals, 4, 8, 30);
        wrongRooms(refusals);
        wrongSheets(refusals);
        wrongOfThoseThere(refusals, 200);
        refusals.add(new Refusal("room(7)", x -> x.room(7), Due.FULL));
        refusals.add(new Refusal("sheet(1, 1, 1, 0)", x -> x.sheet(1, 1, 1, 0), Due.FULL));
        refusals.add(new Refusal("sisters(1, 4)", x -> x.sisters(1, 4), Due.TWICE));
        refusals.add(new Refusal("show(0, 3, 1)", x -> x.show(0, 3, 1), Due.TWICE));
        refusals.add(new Refusal("show(0, 3, 9)", x -> x.show(0, 3, 9), Due.FULL));
        refusals.add(new Refusal("lend(1, 0, 1)", x -> x.lend(1, 0, 1), Due.NONE));
        refusals.add(new Refusal("lend(0, 9, 500)", x -> x.lend(0, 9, 500), Due.FULL));
        refusals.add(new Refusal("cancel(29)", x -> x.cancel(29), Due.TWICE));
        refusals.add(new Refusal("thread(5, 9, 7)", x -> x.thread(5, 9, 7), Due.FULL));
        refusals.add(new Refusal("thread(2, 4, 3)", x -> x.thread(2, 4, 3), Due.FULL));
        refusals.add(new Refusal("wall(1, 9, 3)", x -> x.wall(1, 9, 3), Due.FULL));
        refusals.add(new Refusal("wall(3, 1, 0)", x -> x.wall(3, 1, 0), Due.FULL));
        refusals.add(new Refusal("hung(5)", x -> x.hung(5), Due.NUMBER));
        refusals.add(new Refusal("hung(3)", x -> x.hung(3), Due.NONE));
        refusals.add(new Refusal("hang()", x -> x.hang(), Due.FULL));
        changeNothing(Houses::full, refusals);
    }

    @Sentence(in = "Terms 3", says = "answers below 0, where not told otherwise")
    private static void anAnswerBelowNoughtThatIsNoRefusalChangesNothingEither() {
        List<Refusal> answers = new ArrayList<>();
        answers.add(new Refusal("left(2, false)", x -> x.left(2, false), -10));
        answers.add(new Refusal("left(2, true)", x -> x.left(2, true), -1));
        answers.add(new Refusal("spares(2)", x -> x.spares(2), -10));
        answers.add(new Refusal("of(2, 4)", x -> x.of(2, 4), Due.NONE));
        answers.add(new Refusal("booking(1, 2)", x -> x.booking(1, 2), Due.NONE));
        changeNothing(Houses::ordinary, answers);
    }

    private static void changeNothing(Consumer<LightHours> build, List<Refusal> refusals) {
        Answers due = Answers.of(build);
        for (Refusal refusal : refusals) {
            Answers.of(x -> {
                build.accept(x);
                Due.is(refusal.call, refusal.asked.applyAsInt(x), refusal.due);
            }).mustBe(due, "behind " + refusal.call);
        }
    }

    /** Calls with the first number that isn't there, and with the one ahead of 0. */
    private static void noSuchNumbers(List<Refusal> to, int rooms, int sheets, int bookings) {
        for (int room : new int[] {-1, rooms}) {
            to.add(new Refusal("reading(" + room + ", 0, 0)", x -> x.reading(room, 0, 0), Due.NUMBER));
            to.add(new Refusal("light(" + room + ", 0, true)", x -> x.light(room, 0, true), Due.NUMBER));
            to.add(new Refusal("show(0, " + room + ", 0)", x -> x.show(0, room, 0), Due.NUMBER));
            to.add(new Refusal("wall(" + room + ", 0, 0)", x -> x.wall(room, 0, 0), Due.NUMBER));
        }
        for (int sheet : new int[] {-1, sheets}) {
            to.add(new Refusal("sisters(" + sheet + ", 0)", x -> x.sisters(sheet, 0), Due.NUMBER));
            to.add(new Refusal("sisters(0, " + sheet + ")", x -> x.sisters(0, sheet), Due.NUMBER));
            to.add(new Refusal("past(" + sheet + ", 1, 2)", x -> x.past(sheet, 1, 2), Due.NUMBER));
            to.add(new Refusal("of(" + sheet + ", 5)", x -> x.of(sheet, 5), Due.NUMBER));
            to.add(new Refusal("show(" + sheet + ", 0, 0)", x -> x.show(sheet, 0, 0), Due.NUMBER));
            to.add(new Refusal("lend(" + sheet + ", 0, 1)", x -> x.lend(sheet, 0, 1), Due.NUMBER));
            to.add(new Refusal("lacks(" + sheet + ", 1)", x -> x.lacks(sheet, 1), Due.NUMBER));
            to.add(new Refusal("thread(" + sheet + ", 0, 0)", x -> x.thread(sheet, 0, 0), Due.NUMBER));
            to.add(new Refusal("pastOf(" + sheet + ", true)", x -> x.pastOf(sheet, true), Due.NUMBER));
            to.add(new Refusal("spent(" + sheet + ", 0, true)", x -> x.spent(sheet, 0, true), Due.NUMBER));
            to.add(new Refusal("left(" + sheet + ", true)", x -> x.left(sheet, true), Due.NOTHING));
            to.add(new Refusal("step(" + sheet + ", 0, true)", x -> x.step(sheet, 0, true), Due.NUMBER));
            to.add(new Refusal("spares(" + sheet + ")", x -> x.spares(sheet), Due.NOTHING));
        }
        for (int booking : new int[] {-1, bookings}) {
            to.add(new Refusal("cancel(" + booking + ")", x -> x.cancel(booking), Due.NUMBER));
            to.add(new Refusal("booking(" + booking + ", 0)", x -> x.booking(booking, 0), Due.NUMBER));
        }
        to.add(new Refusal("hung(-1)", x -> x.hung(-1), Due.NUMBER));
        to.add(new Refusal("many(-1)", x -> x.many(-1), Due.NUMBER));
        to.add(new Refusal("many(9)", x -> x.many(9), Due.NUMBER));
    }

    private static void wrongRooms(List<Refusal> to) {
        to.add(new Refusal("room(0)", x -> x.room(0), Due.NUMBER));
        to.add(new Refusal("room(201)", x -> x.room(201), Due.NUMBER));
    }

    private static void wrongSheets(List<Refusal> to) {
        to.add(new Refusal("sheet(0, 1, 1, 0)", x -> x.sheet(0, 1, 1, 0), Due.NUMBER));
        to.add(new Refusal("sheet(2001, 1, 1, 0)", x -> x.sheet(2001, 1, 1, 0), Due.NUMBER));
        to.add(new Refusal("sheet(1, 0, 1, 0)", x -> x.sheet(1, 0, 1, 0), Due.NUMBER));
        to.add(new Refusal("sheet(1, 16, 1, 0)", x -> x.sheet(1, 16, 1, 0), Due.NUMBER));
        to.add(new Refusal("sheet(1, 1, 0, 0)", x -> x.sheet(1, 1, 0, 0), Due.NUMBER));
        to.add(new Refusal("sheet(1, 1, 10, 0)", x -> x.sheet(1, 1, 10, 0), Due.NUMBER));
        to.add(new Refusal("sheet(1, 1, 1, -1)", x -> x.sheet(1, 1, 1, -1), Due.NUMBER));
        to.add(new Refusal("sheet(1, 1, 1, 4)", x -> x.sheet(1, 1, 1, 4), Due.NUMBER));
    }

    /** Calls with a ROOM and a SHEET that are there, and with another number that may not be. */
    private static void wrongOfThoseThere(List<Refusal> to, int worst) {
        for (int year : new int[] {-1, 10}) {
            to.add(new Refusal("reading(0, " + year + ", 1)", x -> x.reading(0, year, 1), Due.NUMBER));
            to.add(new Refusal("light(0, " + year + ", true)", x -> x.light(0, year, true), Due.NUMBER));
            to.add(new Refusal("show(0, 0, " + year + ")", x -> x.show(0, 0, year), Due.NUMBER));
            to.add(new Refusal("lend(0, " + year + ", 1)", x -> x.lend(0, year, 1), Due.NUMBER));
            to.add(new Refusal("thread(0, " + year + ", 0)", x -> x.thread(0, year, 0), Due.NUMBER));
            to.add(new Refusal("spent(0, " + year + ", true)", x -> x.spent(0, year, true), Due.NUMBER));
            to.add(new Refusal("step(0, " + year + ", true)", x -> x.step(0, year, true), Due.NUMBER));
            to.add(new Refusal("wall(0, " + year + ", 0)", x -> x.wall(0, year, 0), Due.NUMBER));
        }
        to.add(new Refusal("reading(0, 2, -2)", x -> x.reading(0, 2, -2), Due.NUMBER));
        to.add(new Refusal("reading(0, 2, WORST + 1)", x -> x.reading(0, 2, worst + 1), Due.NUMBER));
        to.add(new Refusal("sisters(2, 2)", x -> x.sisters(2, 2), Due.NUMBER));
        to.add(new Refusal("past(0, -1, 5)", x -> x.past(0, -1, 5), Due.NUMBER));
        to.add(new Refusal("past(0, 2001, 2001)", x -> x.past(0, 2001, 2001), Due.NUMBER));
        to.add(new Refusal("past(0, 5, 4)", x -> x.past(0, 5, 4), Due.NUMBER));
        to.add(new Refusal("past(0, 5, 2001)", x -> x.past(0, 5, 2001), Due.NUMBER));
        to.add(new Refusal("of(0, -1)", x -> x.of(0, -1), Due.NUMBER));
        to.add(new Refusal("of(0, 8)", x -> x.of(0, 8), Due.NUMBER));
        to.add(new Refusal("booking(0, -1)", x -> x.booking(0, -1), Due.NUMBER));
        to.add(new Refusal("booking(0, 7)", x -> x.booking(0, 7), Due.NUMBER));
        for (int amount : new int[] {0, 501}) {
            to.add(new Refusal("lend(0, 0, " + amount + ")", x -> x.lend(0, 0, amount), Due.NUMBER));
            to.add(new Refusal("lacks(0, " + amount + ")", x -> x.lacks(0, amount), Due.NUMBER));
        }
        to.add(new Refusal("thread(0, 0, -1)", x -> x.thread(0, 0, -1), Due.NUMBER));
        to.add(new Refusal("thread(0, 0, 8)", x -> x.thread(0, 0, 8), Due.NUMBER));
        to.add(new Refusal("wall(0, 0, -1)", x -> x.wall(0, 0, -1), Due.NUMBER));
        to.add(new Refusal("wall(0, 0, 4)", x -> x.wall(0, 0, 4), Due.NUMBER));
    }

    // ---- of several refusals the first one named

    private static LightHours full() {
        LightHours x = new LightHours();
        Houses.full(x);
        return x;
    }

    @Sentence(in = "Promise 2", says = "NUMBER: worst isn't 1 to 200; FULL.")
    private static void aWrongWorstGoesBeforeFull() {
        for (int bad : new int[] {Due.MIN, 0, 201, Due.MAX}) {
            Due.is("room(" + bad + ")", full().room(bad), Due.NUMBER);
        }
        Due.is("room(200)", full().room(200), Due.FULL);
    }

    @Sentence(in = "Promise 5", says = "NUMBER: limit isn't 1 to 2000, themes not 1 to 15, value not 1 to 9, or rest not 0 to 3; FULL.")
    private static void aWrongNumberOfASheetGoesBeforeFull() {
        Due.is("sheet(0, 1, 1, 0)", full().sheet(0, 1, 1, 0), Due.NUMBER);
        Due.is("sheet(2001, 1, 1, 0)", full().sheet(2001, 1, 1, 0), Due.NUMBER);
        Due.is("sheet(1, 0, 1, 0)", full().sheet(1, 0, 1, 0), Due.NUMBER);
        Due.is("sheet(1, 16, 1, 0)", full().sheet(1, 16, 1, 0), Due.NUMBER);
        Due.is("sheet(1, 1, 0, 0)", full().sheet(1, 1, 0, 0), Due.NUMBER);
        Due.is("sheet(1, 1, 10, 0)", full().sheet(1, 1, 10, 0), Due.NUMBER);
        Due.is("sheet(1, 1, 1, -1)", full().sheet(1, 1, 1, -1), Due.NUMBER);
        Due.is("sheet(1, 1, 1, 4)", full().sheet(1, 1, 1, 4), Due.NUMBER);
        Due.is("sheet(1, 1, 1, 0)", full().sheet(1, 1, 1, 0), Due.FULL);
    }

    @Sentence(in = "Promise 6", says = "NUMBER: there is no such SHEET (either), or they are the same; TWICE: one has a SISTER.")
    private static void aWrongSisterGoesBeforeOneThatHasASister() {
        Due.is("sisters(0, 8): SHEET 0 has one", full().sisters(0, 8), Due.NUMBER);
        Due.is("sisters(-1, 0): SHEET 0 has one", full().sisters(-1, 0), Due.NUMBER);
        Due.is("sisters(0, 0): it has one", full().sisters(0, 0), Due.NUMBER);
        Due.is("sisters(0, 4): they are", full().sisters(0, 4), Due.TWICE);
    }

    @Sentence(in = "Promise 9", says = "NUMBER: there is no such SHEET, ROOM, YEAR; TWICE: that SHEET has a SHOW (not CANCELLED) in that YEAR; FULL.")
    private static void ofAShowNumberGoesBeforeTwiceAndTwiceBeforeFull() {
        Due.is("show(0, 4, 1): NUMBER, TWICE, FULL", full().show(0, 4, 1), Due.NUMBER);
        Due.is("show(0, -1, 1): NUMBER, TWICE, FULL", full().show(0, -1, 1), Due.NUMBER);
        Due.is("show(8, 0, 1): NUMBER, FULL", full().show(8, 0, 1), Due.NUMBER);
        Due.is("show(0, 0, 10): NUMBER, FULL", full().show(0, 0, 10), Due.NUMBER);
        Due.is("show(0, 0, 1): TWICE, FULL", full().show(0, 0, 1), Due.TWICE);
        Due.is("show(0, 0, 9): its SHOW is CANCELLED; FULL", full().show(0, 0, 9), Due.FULL);
        LightHours x = new LightHours();
        Houses.ordinary(x);
        Due.is("show(0, 2, 2): NUMBER, TWICE", x.show(0, 2, 2), Due.NUMBER);
        Due.is("show(0, 1, 2): TWICE", x.show(0, 1, 2), Due.TWICE);
    }

    @Sentence(in = "Promise 10", says = "NUMBER: there is no such SHEET, YEAR, or amount isn't 1 to 500; NONE: the least that is LEFT is below the amount; FULL.")
    private static void ofALoanNumberGoesBeforeNoneAndNoneBeforeFull() {
        Due.is("lend(1, 10, 1): NUMBER, NONE, FULL", full().lend(1, 10, 1), Due.NUMBER);
        Due.is("lend(1, 0, 501): NUMBER, NONE, FULL", full().lend(1, 0, 501), Due.NUMBER);
        Due.is("lend(1, 0, 0): NUMBER, NONE, FULL", full().lend(1, 0, 0), Due.NUMBER);
        Due.is("lend(8, 0, 1): NUMBER, FULL", full().lend(8, 0, 1), Due.NUMBER);
        Due.is("lend(1, 0, 1): NONE, FULL", full().lend(1, 0, 1), Due.NONE);
        Due.is("lend(0, 0, 1): FULL", full().lend(0, 0, 1), Due.FULL);
        LightHours x = new LightHours();
        Houses.ordinary(x);
        Due.is("lend(2, -1, 1): NUMBER, NONE", x.lend(2, -1, 1), Due.NUMBER);
        Due.is("lend(2, 0, 501): NUMBER, NONE", x.lend(2, 0, 501), Due.NUMBER);
        Due.is("lend(2, 0, 1): NONE", x.lend(2, 0, 1), Due.NONE);
    }

    @Sentence(in = "Promise 12", says = "NUMBER: there is none such; TWICE.")
    private static void ofACancelNumberIsOfThoseNotThereAlone() {
        Due.is("cancel(30)", full().cancel(30), Due.NUMBER);
        Due.is("cancel(29), the last, that is CANCELLED", full().cancel(29), Due.TWICE);
        Due.is("cancel(28)", full().cancel(28), 1);
    }

    @Sentence(in = "Promise 14", says = "NUMBER: there is no such SHEET, YEAR, STEP; FULL.")
    private static void aWrongNumberOfAThreadGoesBeforeFull() {
        Due.is("thread(8, 0, 0)", full().thread(8, 0, 0), Due.NUMBER);
        Due.is("thread(-1, 0, 0)", full().thread(-1, 0, 0), Due.NUMBER);
        Due.is("thread(0, 10, 0)", full().thread(0, 10, 0), Due.NUMBER);
        Due.is("thread(0, -1, 0)", full().thread(0, -1, 0), Due.NUMBER);
        Due.is("thread(0, 0, 8)", full().thread(0, 0, 8), Due.NUMBER);
        Due.is("thread(0, 0, -1)", full().thread(0, 0, -1), Due.NUMBER);
        Due.is("thread(0, 0, 0)", full().thread(0, 0, 0), Due.FULL);
    }

    @Sentence(in = "Promise 20", says = "NUMBER: there is no such ROOM, YEAR, THEME; FULL.")
    private static void aWrongNumberOfAWallGoesBeforeFull() {
        Due.is("wall(4, 0, 0)", full().wall(4, 0, 0), Due.NUMBER);
        Due.is("wall(-1, 0, 0)", full().wall(-1, 0, 0), Due.NUMBER);
        Due.is("wall(0, 10, 0)", full().wall(0, 10, 0), Due.NUMBER);
        Due.is("wall(0, -1, 0)", full().wall(0, -1, 0), Due.NUMBER);
        Due.is("wall(0, 0, 4)", full().wall(0, 0, 4), Due.NUMBER);
        Due.is("wall(0, 0, -1)", full().wall(0, 0, -1), Due.NUMBER);
        Due.is("wall(0, 0, 0)", full().wall(0, 0, 0), Due.FULL);
    }

    @Sentence(in = "Promise 22", says = "NUMBER: there is none such; NONE: nothing.")
    private static void aWallThatIsNotThereIsNumberAndAnEmptyOneNone() {
        Due.is("hung(3)", full().hung(3), Due.NONE);
        Due.is("hung(4)", full().hung(4), 5);
        Due.is("hung(5)", full().hung(5), Due.NUMBER);
        Due.is("hung(NONE)", full().hung(Due.NONE), Due.NUMBER);
    }

    // ---- any number at all

    @Sentence(in = "Terms 3", says = "NUMBER = -1: A number is none, or none that may be.")
    private static void callsOfOneNumberAnswerForAnyNumber() {
        for (Consumer<LightHours> build : houses()) {
            for (int a : ODD) {
                refusesOnlyBy("room(" + a + ")", built(build).room(a), Due.NUMBER, Due.FULL);
                refusesOnlyBy("cancel(" + a + ")", built(build).cancel(a), Due.NUMBER, Due.TWICE);
                refusesOnlyBy("hung(" + a + ")", built(build).hung(a), Due.NUMBER, Due.NONE);
                refusesOnlyBy("many(" + a + ")", built(build).many(a), Due.NUMBER);
                bothEnds(build, a);
            }
        }
    }

    private static void bothEnds(Consumer<LightHours> build, int a) {
        LightHours x = built(build);
        boolean there = a >= 0 && a < x.many(1);
        for (boolean greatest : new boolean[] {false, true}) {
            refusesOnlyBy("pastOf(" + a + ", " + greatest + ")", x.pastOf(a, greatest), Due.NUMBER);
            Due.is("left(" + a + ", " + greatest + ") is NOTHING", x.left(a, greatest) == Due.NOTHING ? 1 : 0, there ? 0 : 1);
        }
        Due.is("spares(" + a + ") is NOTHING", x.spares(a) == Due.NOTHING ? 1 : 0, there ? 0 : 1);
    }

    @Sentence(in = "Terms 3", says = "NUMBER = -1: A number is none, or none that may be.")
    private static void callsOfTwoNumbersAnswerForAnyNumbers() {
        for (Consumer<LightHours> build : houses()) {
            for (int a : ODD) {
                for (int b : ODD) {
                    String of = "(" + a + ", " + b + ")";
                    refusesOnlyBy("sisters" + of, built(build).sisters(a, b), Due.NUMBER, Due.TWICE);
                    LightHours x = built(build);
                    refusesOnlyBy("of" + of, x.of(a, b), Due.NUMBER, Due.NONE);
                    refusesOnlyBy("lacks" + of, x.lacks(a, b), Due.NUMBER);
                    refusesOnlyBy("booking" + of, x.booking(a, b), Due.NUMBER, Due.NONE);
                    refusesOnlyBy("light" + of, x.light(a, b, true), Due.NUMBER);
                    refusesOnlyBy("light" + of, x.light(a, b, false), Due.NUMBER);
                    refusesOnlyBy("spent" + of, x.spent(a, b, true), Due.NUMBER);
                    refusesOnlyBy("spent" + of, x.spent(a, b, false), Due.NUMBER);
                    refusesOnlyBy("step" + of, x.step(a, b, true), Due.NUMBER);
                    refusesOnlyBy("step" + of, x.step(a, b, false), Due.NUMBER);
                }
            }
        }
    }

    @Sentence(in = "Terms 3", says = "NUMBER = -1: A number is none, or none that may be.")
    private static void callsOfThreeNumbersAnswerForAnyNumbers() {
        int[] odd = {Due.MIN, -4, -1, 0, 1, 4, 7, 8, 10, 501, Due.MAX};
        for (Consumer<LightHours> build : houses()) {
            for (int a : odd) {
                for (int b : odd) {
                    for (int c : odd) {
                        String of = "(" + a + ", " + b + ", " + c + ")";
                        LightHours x = built(build);
                        refusesOnlyBy("reading" + of, x.reading(a, b, c), Due.NUMBER);
                        refusesOnlyBy("past" + of, x.past(a, b, c), Due.NUMBER);
                        refusesOnlyBy("show" + of, x.show(a, b, c), Due.NUMBER, Due.TWICE, Due.FULL);
                        refusesOnlyBy("lend" + of, x.lend(a, b, c), Due.NUMBER, Due.NONE, Due.FULL);
                        refusesOnlyBy("thread" + of, x.thread(a, b, c), Due.NUMBER, Due.FULL);
                        refusesOnlyBy("wall" + of, x.wall(a, b, c), Due.NUMBER, Due.FULL);
                        refusesOnlyBy("sheet" + of, x.sheet(a, b, c, a), Due.NUMBER, Due.FULL);
                        refusesOnlyBy("worth()", x.worth());
                        refusesOnlyBy("hang()", x.hang(), Due.FULL);
                    }
                }
            }
        }
    }

    private static List<Consumer<LightHours>> houses() {
        return List.of(Houses::empty, Houses::ordinary, Houses::full);
    }

    private static LightHours built(Consumer<LightHours> build) {
        LightHours x = new LightHours();
        build.accept(x);
        return x;
    }

    private static void refusesOnlyBy(String call, int answer, int... refusals) {
        boolean good = answer >= 0;
        for (int refusal : refusals) {
            good = good || answer == refusal;
        }
        Due.is(call + " answered " + answer + ", which is as the call names", good ? 1 : 0, 1);
    }
}
