import java.util.ArrayList;
import java.util.List;
import java.util.function.Consumer;

/** Promises 27 and 28 of DOC.md: what is so after keep and back. */
public final class KeptTest {
    private record Change(String name, Consumer<LightHours> made) { }

    public static void main(String[] args) {
        Due.runAll(KeptTest.class);
    }

    /** Each call that changes a house, alone, as it may come behind Houses.ordinary. */
    private static List<Change> changes() {
        List<Change> all = new ArrayList<>();
        all.add(new Change("room", x -> Due.is("room(77)", x.room(77), 2)));
        all.add(new Change("a reading where none was", x -> Due.is("reading(0, 0, 9)", x.reading(0, 0, 9), 1)));
        all.add(new Change("a reading anew", x -> Due.is("reading(0, 2, 31)", x.reading(0, 2, 31), 1)));
        all.add(new Change("a reading taken away", x -> Due.is("reading(1, 4, -1)", x.reading(1, 4, -1), 1)));
        all.add(new Change("sheet", x -> Due.is("sheet(2000, 15, 9, 0)", x.sheet(2000, 15, 9, 0), 3)));
        all.add(new Change("sisters", x -> {
            x.sheet(1, 1, 1, 0);
            Due.is("sisters(3, 2)", x.sisters(3, 2), 1);
        }));
        all.add(new Change("past", x -> Due.is("past(0, 11, 91)", x.past(0, 11, 91), 1)));
        all.add(new Change("show", x -> Due.is("show(0, 1, 4)", x.show(0, 1, 4), 3)));
        all.add(new Change("lend", x -> Due.is("lend(1, 9, 5)", x.lend(1, 9, 5), 3)));
        all.add(new Change("cancel", x -> Due.is("cancel(0)", x.cancel(0), 1)));
        all.add(new Change("cancel of the last", x -> Due.is("cancel(2)", x.cancel(2), 1)));
        all.add(new Change("thread", x -> Due.is("thread(0, 9, 0)", x.thread(0, 9, 0), 2)));
        all.add(new Change("cut", x -> Due.is("cut()", x.cut(), 1)));
        all.add(new Change("a thread of another sheet", x -> threadAnew(x, 2, 3, 3)));
        all.add(new Change("a thread of another year", x -> threadAnew(x, 0, 1, 3)));
        all.add(new Change("a thread of another step", x -> threadAnew(x, 0, 3, 4)));
        all.add(new Change("wall", x -> Due.is("wall(0, 9, 3)", x.wall(0, 9, 3), 2)));
        all.add(new Change("strip", x -> Due.is("strip()", x.strip(), 1)));
        all.add(new Change("a wall of another room", x -> wallAnew(x, 1, 4, 0)));
        all.add(new Change("a wall of another year", x -> wallAnew(x, 0, 2, 0)));
        all.add(new Change("a wall of another theme", x -> wallAnew(x, 0, 4, 1)));
        all.add(new Change("hang", x -> Due.is("hang()", x.hang(), 1)));
        return all;
    }

    /** Another THREAD takes the place of the first one, unlike it in one number alone. */
    private static void threadAnew(LightHours x, int sheet, int year, int step) {
        x.cut();
        x.cut();
        Due.is("thread(" + sheet + ", " + year + ", " + step + ")", x.thread(sheet, year, step), 0);
    }

    /** Another WALL takes the place of the first one, unlike it in one number alone. */
    private static void wallAnew(LightHours x, int room, int year, int theme) {
        x.strip();
        x.strip();
        Due.is("wall(" + room + ", " + year + ", " + theme + ")", x.wall(room, year, theme), 0);
    }

    private static void ordinaryKept(LightHours x) {
        Houses.ordinary(x);
        x.keep();
    }

    // ---- Promise 27

    @Sentence(in = "Promise 27", says = "All is kept: 1.")
    private static void keepAnswersOneInAnyHouse() {
        for (Consumer<LightHours> build : List.<Consumer<LightHours>>of(Houses::empty, Houses::ordinary, Houses::full)) {
            LightHours x = new LightHours();
            build.accept(x);
            Due.is("keep()", x.keep(), 1);
            Due.is("keep() again", x.keep(), 1);
        }
    }

    @Sentence(in = "Promise 27", says = "All is kept: 1.")
    private static void keepChangesNothingButWhatIsKept() {
        Answers due = Answers.of(KeptTest::ordinaryKept);
        Answers.of(x -> {
            ordinaryKept(x);
            x.keep();
        }).mustBe(due, "when kept twice");
        LightHours x = new LightHours();
        Houses.full(x);
        int worth = x.worth();
        x.keep();
        Due.is("worth() when kept", x.worth(), worth);
        Due.is("many(2) when kept", x.many(2), 30);
        Due.is("hang() when kept", x.hang(), Due.FULL);
    }

    @Sentence(in = "Promise 27", says = "All is kept: 1.")
    private static void whatIsKeptDoesNotChangeWithTheHouse() {
        LightHours due = new LightHours();
        ordinaryKept(due);
        for (Change change : changes()) {
            LightHours x = new LightHours();
            ordinaryKept(x);
            change.made.accept(x);
            x.back();
            for (int what = 0; what <= 8; what++) {
                Due.is("many(" + what + ") behind " + change.name, x.many(what), due.many(what));
            }
        }
    }

    @Sentence(in = "Promise 27", says = "All is kept: 1.")
    private static void anEmptyHouseIsKeptToo() {
        LightHours x = new LightHours();
        Due.is("keep()", x.keep(), 1);
        Houses.ordinary(x);
        x.keep();
        LightHours y = new LightHours();
        y.keep();
        y.room(5);
        y.reading(0, 0, 5);
        y.sheet(5, 1, 1, 0);
        y.show(0, 0, 0);
        y.thread(0, 0, 0);
        y.wall(0, 0, 0);
        Due.is("back()", y.back(), 1);
        for (int what = 0; what <= 8; what++) {
            Due.is("many(" + what + ") when back", y.many(what), 0);
        }
        Due.is("cut() when back", y.cut(), Due.NONE);
        Due.is("strip() when back", y.strip(), Due.NONE);
        Due.is("hung(0) when back", y.hung(0), Due.NUMBER);
        Due.is("of(0, 0) when back", y.of(0, 0), Due.NUMBER);
        Due.is("light(0, 0, true) when back", y.light(0, 0, true), Due.NUMBER);
        Due.is("booking(0, 0) when back", y.booking(0, 0), Due.NUMBER);
        Due.is("back() of the other", x.back(), 1);
        Due.is("many(1) of the other", x.many(1), 3);
    }

    // ---- Promise 28

    @Sentence(in = "Promise 28", says = "NONE: nothing is kept.")
    private static void backIsRefusedWhereNothingIsKept() {
        LightHours x = new LightHours();
        Due.is("back() of a new one", x.back(), Due.NONE);
        x.room(50);
        x.sheet(100, 1, 3, 0);
        x.wall(0, 0, 0);
        Due.is("back()", x.back(), Due.NONE);
        Due.is("back() again", x.back(), Due.NONE);
        Due.is("many(0)", x.many(0), 1);
        Due.is("worth()", x.worth(), 3);
        Due.is("keep()", x.keep(), 1);
        Due.is("back() of what is kept", x.back(), 1);
        Due.is("worth()", x.worth(), 3);
    }

    @Sentence(in = "Promise 28", says = "It becomes what was kept latest")
    private static void backTakesEveryChangeAway() {
        Answers due = Answers.of(KeptTest::ordinaryKept);
        for (Change change : changes()) {
            Answers.of(x -> {
                ordinaryKept(x);
                change.made.accept(x);
                x.worth();
                Due.is("back()", x.back(), 1);
            }).mustBe(due, "when back behind " + change.name);
        }
    }

    @Sentence(in = "Promise 28", says = "It becomes what was kept latest")
    private static void backTakesAllChangesTogetherAway() {
        Answers due = Answers.of(KeptTest::ordinaryKept);
        Answers.of(x -> {
            ordinaryKept(x);
            x.room(77);
            x.reading(2, 0, 7);
            x.reading(0, 2, -1);
            x.sheet(2000, 15, 9, 0);
            x.sisters(2, 3);
            x.past(1, 2000, 2000);
            x.lend(3, 0, 500);
            x.cancel(0);
            x.cancel(2);
            x.thread(3, 9, 7);
            x.hang();
            x.wall(2, 9, 3);
            x.back();
        }).mustBe(due, "when back");
    }

    @Sentence(in = "Promise 28", says = "It becomes what was kept latest")
    private static void theLatestKeepCountsAlone() {
        LightHours x = new LightHours();
        x.room(1);
        x.keep();
        x.room(2);
        x.keep();
        x.room(3);
        Due.is("back()", x.back(), 1);
        Due.is("many(0)", x.many(0), 2);
        Due.is("back() again: there is no earlier one", x.back(), 1);
        Due.is("many(0)", x.many(0), 2);
        Due.is("light(1, 0, true)", x.light(1, 0, true), 2);
    }

    @Sentence(in = "Promise 28", says = "It becomes what was kept latest")
    private static void aHouseWithLessMayBeKeptBehindOneWithMore() {
        LightHours x = new LightHours();
        x.room(50);
        x.sheet(100, 1, 3, 0);
        x.thread(0, 0, 0);
        x.thread(0, 0, 1);
        x.wall(0, 0, 0);
        x.wall(0, 1, 0);
        x.reading(0, 0, 5);
        x.keep();
        x.cut();
        x.strip();
        x.reading(0, 0, -1);
        x.keep();
        x.thread(0, 0, 2);
        x.wall(0, 2, 0);
        x.reading(0, 0, 9);
        x.back();
        Due.is("many(4)", x.many(4), 1);
        Due.is("many(5)", x.many(5), 1);
        Due.is("many(6)", x.many(6), 0);
        Due.is("many(8)", x.many(8), 0);
        Due.is("worth()", x.worth(), 3);
    }

    @Sentence(in = "Promise 28", says = "(which stays)")
    private static void whatIsKeptStaysHoweverOftenItIsTaken() {
        Answers due = Answers.of(KeptTest::ordinaryKept);
        for (Change change : changes()) {
            Answers.of(x -> {
                ordinaryKept(x);
                for (int again = 0; again < 3; again++) {
                    change.made.accept(x);
                    Due.is("back()", x.back(), 1);
                }
            }).mustBe(due, "when back for the third time behind " + change.name);
        }
    }

    @Sentence(in = "Promise 28", says = "It becomes what was kept latest")
    private static void whatComesBehindBackIsAsAtFirst() {
        LightHours x = new LightHours();
        x.room(60);
        x.sheet(500, 1, 1, 0);
        x.keep();
        x.room(70);
        x.reading(1, 9, 7);
        x.sheet(600, 15, 9, 3);
        x.sisters(0, 1);
        x.past(1, 5, 6);
        x.show(1, 1, 9);
        x.cancel(0);
        x.thread(1, 0, 5);
        x.wall(1, 9, 0);
        x.back();
        Due.is("room(80)", x.room(80), 1);
        Due.is("light(1, 9, false) of a new ROOM", x.light(1, 9, false), 0);
        Due.is("light(1, 9, true) of a new ROOM", x.light(1, 9, true), 80);
        Due.is("sheet(40, 2, 3, 1)", x.sheet(40, 2, 3, 1), 1);
        int[] due = {40, 2, 3, 1, Due.NONE, 0, 0, 0};
        for (int what = 0; what <= 7; what++) {
            Due.is("of(1, " + what + ") of a new SHEET", x.of(1, what), due[what]);
        }
        Due.is("pastOf(1, true) of a new SHEET", x.pastOf(1, true), 0);
        Due.is("of(0, 4)", x.of(0, 4), Due.NONE);
        Due.is("lend(0, 3, 2)", x.lend(0, 3, 2), 0);
        Due.is("booking(0, 2) of a new LOAN", x.booking(0, 2), Due.NONE);
        Due.is("booking(0, 6) of a new LOAN", x.booking(0, 6), 0);
        Due.is("thread(0, 0, 0)", x.thread(0, 0, 0), 0);
        Due.is("wall(0, 0, 0)", x.wall(0, 0, 0), 0);
        Due.is("hung(0)", x.hung(0), 0);
    }

    @Sentence(in = "Promise 28", says = "It becomes what was kept latest")
    private static void backFromAFullHouseMakesRoomAgain() {
        LightHours x = new LightHours();
        x.keep();
        Houses.full(x);
        Due.is("back() to what the full one kept", x.back(), 1);
        Due.is("many(0)", x.many(0), 4);
        Due.is("room(1) still", x.room(1), Due.FULL);
        Due.is("sheet(1, 1, 1, 0) still", x.sheet(1, 1, 1, 0), Due.FULL);
        Due.is("many(2)", x.many(2), 0);
        for (int booking = 0; booking < 30; booking++) {
            Due.is("lend " + booking, x.lend(0, 0, 1), booking);
        }
        Due.is("lend(0, 0, 1)", x.lend(0, 0, 1), Due.FULL);
        for (int thread = 0; thread < 12; thread++) {
            Due.is("thread " + thread, x.thread(0, 0, 0), thread);
        }
        Due.is("thread(0, 0, 0)", x.thread(0, 0, 0), Due.FULL);
        for (int wall = 0; wall < 5; wall++) {
            Due.is("wall " + wall, x.wall(0, 0, 0), wall);
        }
        Due.is("wall(0, 0, 0)", x.wall(0, 0, 0), Due.FULL);
    }

    @Sentence(in = "Promise 28", says = "It becomes what was kept latest")
    private static void backToAFullHouseIsFullAgain() {
        LightHours x = new LightHours();
        Houses.full(x);
        x.keep();
        x.cut();
        x.strip();
        x.cancel(0);
        x.back();
        Due.is("room(1)", x.room(1), Due.FULL);
        Due.is("sheet(1, 1, 1, 0)", x.sheet(1, 1, 1, 0), Due.FULL);
        Due.is("show(5, 0, 0)", x.show(5, 0, 0), Due.FULL);
        Due.is("thread(0, 0, 0)", x.thread(0, 0, 0), Due.FULL);
        Due.is("wall(0, 0, 0)", x.wall(0, 0, 0), Due.FULL);
        Due.is("many(3)", x.many(3), 3);
    }

    @Sentence(in = "Promise 28", says = "It becomes what was kept latest")
    private static void theHangIsFoundAnewWhenBack() {
        LightHours x = new LightHours();
        x.room(50);
        x.sheet(50, 1, 3, 0);
        x.wall(0, 0, 0);
        x.keep();
        x.past(0, 1, 1);
        Due.is("hung(0)", x.hung(0), Due.NONE);
        x.back();
        Due.is("hung(0) when back", x.hung(0), 0);
        Due.is("worth() when back", x.worth(), 3);
        Due.is("spares(0) when back", x.spares(0), 0);
        Due.is("hang() when back", x.hang(), 1);
        x.back();
        Due.is("many(2) when back", x.many(2), 0);
        Due.is("many(5) when back", x.many(5), 1);
    }
}
