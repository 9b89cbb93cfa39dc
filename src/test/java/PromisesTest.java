/** One method a promise of DOC.md: ordinary inputs, the edges that the document names, and wrong inputs. */
public final class PromisesTest {
    private static final int NUMBER = -1;
    private static final int FULL = -2;
    private static final int TWICE = -3;
    private static final int NONE = -4;
    private static final int NOTHING = -1000000;
    private static final int MIN = Integer.MIN_VALUE;
    private static final int MAX = Integer.MAX_VALUE;

    private static int wrong = 0;
    private static int promise = 0;

    private static void due(String call, int got, int want) {
        if (got != want) {
            wrong++;
            System.out.println("promise " + promise + ": " + call + " answered " + got + ", due is " + want);
        }
    }

    public static void main(String[] args) {
        newObject();
        room();
        reading();
        light();
        sheet();
        sisters();
        past();
        of();
        show();
        lend();
        lacks();
        cancel();
        booking();
        thread();
        cut();
        pastOf();
        spent();
        left();
        step();
        wall();
        strip();
        hung();
        hungWithRest();
        hungWithSisters();
        hungWithLight();
        hungFirstAmongEquals();
        hungAnewAfterEachChange();
        worth();
        spares();
        hang();
        many();
        manyOfFullHouse();
        keep();
        back();
        backOfEverything();
        System.out.println(wrong == 0 ? "all promises hold" : wrong + " answers are not as due");
        if (wrong != 0) {
            System.exit(1);
        }
    }

    /** Rooms of WORST 50 and 100, and sheets 0 (REST 0) and 1 (REST 1) with all THEMES. */
    private static LightHours house() {
        LightHours x = new LightHours();
        x.room(50);
        x.room(100);
        x.sheet(1000, 15, 5, 0);
        x.sheet(1000, 15, 4, 1);
        return x;
    }

    private static void newObject() {
        promise = 1;
        LightHours x = new LightHours();
        for (int what = 0; what <= 8; what++) {
            due("many(" + what + ")", x.many(what), 0);
        }
        due("back()", x.back(), NONE);
        due("worth()", x.worth(), 0);
        due("light(0, 0, true)", x.light(0, 0, true), NUMBER);
        due("of(0, 0)", x.of(0, 0), NUMBER);
        due("booking(0, 0)", x.booking(0, 0), NUMBER);
        due("cut()", x.cut(), NONE);
        due("strip()", x.strip(), NONE);
        LightHours other = house();
        other.keep();
        due("many(0) of another", x.many(0), 0);
        due("back() of another", x.back(), NONE);
    }

    private static void room() {
        promise = 2;
        LightHours x = new LightHours();
        for (int worst : new int[] {MIN, -1, 0, 201, MAX}) {
            due("room(" + worst + ")", x.room(worst), NUMBER);
        }
        due("room(1)", x.room(1), 0);
        due("room(200)", x.room(200), 1);
        due("room(7)", x.room(7), 2);
        due("many(0)", x.many(0), 3);
        due("room(8)", x.room(8), 3);
        due("room(9)", x.room(9), FULL);
        due("room(0) when full", x.room(0), NUMBER);
        due("many(0)", x.many(0), 4);
        due("light(0, 0, true)", x.light(0, 0, true), 1);
        due("light(1, 0, true)", x.light(1, 0, true), 200);
        due("light(3, 0, true)", x.light(3, 0, true), 8);
    }

    private static void reading() {
        promise = 3;
        LightHours x = house();
        due("reading(0, 0, 50)", x.reading(0, 0, 50), 1);
        due("reading(0, 9, 0)", x.reading(0, 9, 0), 1);
        due("reading(1, 0, 100)", x.reading(1, 0, 100), 1);
        due("reading(0, 0, 51)", x.reading(0, 0, 51), NUMBER);
        due("reading(0, 0, -2)", x.reading(0, 0, -2), NUMBER);
        due("reading(0, 0, MIN)", x.reading(0, 0, MIN), NUMBER);
        for (int bad : new int[] {MIN, -1, 2, 3, MAX}) {
            due("reading(" + bad + ", 0, 1)", x.reading(bad, 0, 1), NUMBER);
        }
        for (int bad : new int[] {MIN, -1, 10, MAX}) {
            due("reading(0, " + bad + ", 1)", x.reading(0, bad, 1), NUMBER);
        }
        due("many(8)", x.many(8), 3);
        due("light(0, 0, false)", x.light(0, 0, false), 50);
        due("reading(0, 0, 7) anew", x.reading(0, 0, 7), 1);
        due("light(0, 0, true)", x.light(0, 0, true), 7);
        due("reading(0, 0, -1)", x.reading(0, 0, -1), 1);
        due("reading(0, 0, -1) again", x.reading(0, 0, -1), 1);
        due("light(0, 0, true)", x.light(0, 0, true), 50);
        due("light(0, 0, false)", x.light(0, 0, false), 0);
        due("many(8)", x.many(8), 2);
    }

    private static void light() {
        promise = 4;
        LightHours x = house();
        for (int year = 0; year <= 9; year++) {
            due("light(1, y, true)", x.light(1, year, true), 100);
            due("light(1, y, false)", x.light(1, year, false), 0);
        }
        x.reading(1, 4, 30);
        due("light(1, 4, true)", x.light(1, 4, true), 30);
        due("light(1, 4, false)", x.light(1, 4, false), 30);
        due("light(1, 3, true)", x.light(1, 3, true), 100);
        due("light(1, 5, true)", x.light(1, 5, true), 100);
        due("light(0, 4, true)", x.light(0, 4, true), 50);
        x.reading(1, 5, 0);
        due("light(1, 5, true)", x.light(1, 5, true), 0);
        for (int bad : new int[] {MIN, -1, 2, 4, MAX}) {
            due("light(" + bad + ", 0, true)", x.light(bad, 0, true), NUMBER);
        }
        for (int bad : new int[] {MIN, -1, 10, MAX}) {
            due("light(0, " + bad + ", true)", x.light(0, bad, true), NUMBER);
        }
    }

    private static void sheet() {
        promise = 5;
        LightHours x = new LightHours();
        for (int bad : new int[] {MIN, 0, 2001, MAX}) {
            due("sheet(" + bad + ", 1, 1, 0)", x.sheet(bad, 1, 1, 0), NUMBER);
        }
        for (int bad : new int[] {MIN, -1, 0, 16, MAX}) {
            due("sheet(1, " + bad + ", 1, 0)", x.sheet(1, bad, 1, 0), NUMBER);
        }
        for (int bad : new int[] {MIN, 0, 10, MAX}) {
            due("sheet(1, 1, " + bad + ", 0)", x.sheet(1, 1, bad, 0), NUMBER);
        }
        for (int bad : new int[] {MIN, -1, 4, MAX}) {
            due("sheet(1, 1, 1, " + bad + ")", x.sheet(1, 1, 1, bad), NUMBER);
        }
        due("sheet(1, 1, 1, 0)", x.sheet(1, 1, 1, 0), 0);
        due("sheet(2000, 15, 9, 3)", x.sheet(2000, 15, 9, 3), 1);
        for (int number = 2; number < 8; number++) {
            due("sheet(5, 2, 3, 1)", x.sheet(5, 2, 3, 1), number);
        }
        due("sheet(5, 2, 3, 1)", x.sheet(5, 2, 3, 1), FULL);
        due("sheet(0, 2, 3, 1) when full", x.sheet(0, 2, 3, 1), NUMBER);
        due("many(1)", x.many(1), 8);
    }

    private static void sisters() {
        promise = 6;
        LightHours x = house();
        x.sheet(10, 1, 1, 0);
        x.sheet(10, 1, 1, 0);
        for (int bad : new int[] {MIN, -1, 4, 8, MAX}) {
            due("sisters(" + bad + ", 0)", x.sisters(bad, 0), NUMBER);
            due("sisters(0, " + bad + ")", x.sisters(0, bad), NUMBER);
        }
        due("sisters(0, 0)", x.sisters(0, 0), NUMBER);
        due("of(0, 4)", x.of(0, 4), NONE);
        due("sisters(0, 2)", x.sisters(0, 2), 1);
        due("of(0, 4)", x.of(0, 4), 2);
        due("of(2, 4)", x.of(2, 4), 0);
        due("of(1, 4)", x.of(1, 4), NONE);
        due("sisters(0, 2)", x.sisters(0, 2), TWICE);
        due("sisters(2, 0)", x.sisters(2, 0), TWICE);
        due("sisters(0, 1)", x.sisters(0, 1), TWICE);
        due("sisters(1, 0)", x.sisters(1, 0), TWICE);
        due("sisters(2, 2)", x.sisters(2, 2), NUMBER);
        due("sisters(0, 4)", x.sisters(0, 4), NUMBER);
        due("sisters(3, 1)", x.sisters(3, 1), 1);
        due("of(1, 4)", x.of(1, 4), 3);
    }

    private static void past() {
        promise = 7;
        LightHours x = house();
        due("pastOf(0, false)", x.pastOf(0, false), 0);
        due("pastOf(0, true)", x.pastOf(0, true), 0);
        due("past(0, 0, 2000)", x.past(0, 0, 2000), 1);
        due("pastOf(0, true)", x.pastOf(0, true), 2000);
        due("past(0, 2000, 2000)", x.past(0, 2000, 2000), 1);
        due("pastOf(0, false)", x.pastOf(0, false), 2000);
        due("past(0, 30, 40)", x.past(0, 30, 40), 1);
        for (int bad : new int[] {MIN, -1, 2, 8, MAX}) {
            due("past(" + bad + ", 0, 0)", x.past(bad, 0, 0), NUMBER);
        }
        due("past(0, -1, 5)", x.past(0, -1, 5), NUMBER);
        due("past(0, 2001, 2001)", x.past(0, 2001, 2001), NUMBER);
        due("past(0, 5, 4)", x.past(0, 5, 4), NUMBER);
        due("past(0, 5, 2001)", x.past(0, 5, 2001), NUMBER);
        due("past(0, MIN, MAX)", x.past(0, MIN, MAX), NUMBER);
        due("pastOf(0, false)", x.pastOf(0, false), 30);
        due("pastOf(0, true)", x.pastOf(0, true), 40);
        due("pastOf(1, true)", x.pastOf(1, true), 0);
    }

    private static void of() {
        promise = 8;
        LightHours x = new LightHours();
        x.room(50);
        x.sheet(123, 10, 7, 2);
        x.sheet(321, 5, 2, 3);
        due("of(0, 0)", x.of(0, 0), 123);
        due("of(0, 1)", x.of(0, 1), 10);
        due("of(0, 2)", x.of(0, 2), 7);
        due("of(0, 3)", x.of(0, 3), 2);
        due("of(0, 4)", x.of(0, 4), NONE);
        due("of(0, 5)", x.of(0, 5), 0);
        due("of(1, 0)", x.of(1, 0), 321);
        due("of(1, 3)", x.of(1, 3), 3);
        x.show(0, 0, 1);
        x.lend(0, 1, 1);
        x.show(1, 0, 1);
        due("of(0, 6)", x.of(0, 6), 2);
        x.cancel(0);
        due("of(0, 6)", x.of(0, 6), 1);
        due("of(1, 6)", x.of(1, 6), 1);
        x.thread(0, 0, 7);
        x.thread(0, 0, 6);
        x.thread(1, 0, 0);
        due("of(0, 5)", x.of(0, 5), 1);
        due("of(1, 5)", x.of(1, 5), 0);
        due("of(0, 7)", x.of(0, 7), 2);
        due("of(1, 7)", x.of(1, 7), 1);
        for (int bad : new int[] {MIN, -1, 8, MAX}) {
            due("of(0, " + bad + ")", x.of(0, bad), NUMBER);
        }
        for (int bad : new int[] {MIN, -1, 2, 8, MAX}) {
            due("of(" + bad + ", 0)", x.of(bad, 0), NUMBER);
        }
    }

    private static void show() {
        promise = 9;
        LightHours x = house();
        for (int bad : new int[] {MIN, -1, 2, MAX}) {
            due("show(" + bad + ", 0, 0)", x.show(bad, 0, 0), NUMBER);
            due("show(0, " + bad + ", 0)", x.show(0, bad, 0), NUMBER);
        }
        for (int bad : new int[] {MIN, -1, 10, MAX}) {
            due("show(0, 0, " + bad + ")", x.show(0, 0, bad), NUMBER);
        }
        due("lend(0, 3, 5)", x.lend(0, 3, 5), 0);
        due("show(0, 0, 3) beside a loan", x.show(0, 0, 3), 1);
        due("show(0, 0, 3)", x.show(0, 0, 3), TWICE);
        due("show(0, 1, 3) in another room", x.show(0, 1, 3), TWICE);
        due("show(0, 2, 3)", x.show(0, 2, 3), NUMBER);
        due("show(1, 0, 3) of another sheet", x.show(1, 0, 3), 2);
        due("show(1, 0, 4) without rest", x.show(1, 0, 4), 3);
        x.cancel(1);
        due("show(0, 1, 3) after it is cancelled", x.show(0, 1, 3), 4);
        due("show(0, 0, 3)", x.show(0, 0, 3), TWICE);
        for (int number = 5; number < 30; number++) {
            due("lend(0, 0, 1)", x.lend(0, 0, 1), number);
        }
        due("show(0, 0, 3) when full", x.show(0, 0, 3), TWICE);
        due("show(0, 0, 4) when full", x.show(0, 0, 4), FULL);
        due("show(0, 0, 10) when full", x.show(0, 0, 10), NUMBER);
        x.cancel(7);
        due("show(0, 0, 4) when full of cancelled ones", x.show(0, 0, 4), FULL);
        due("many(2)", x.many(2), 30);
        LightHours overspent = new LightHours();
        overspent.room(200);
        overspent.sheet(1, 1, 1, 0);
        due("show(0, 0, 0) above the limit", overspent.show(0, 0, 0), 0);
        due("left(0, false)", overspent.left(0, false), -199);
    }

    private static void lend() {
        promise = 10;
        LightHours x = house();
        for (int bad : new int[] {MIN, -1, 2, MAX}) {
            due("lend(" + bad + ", 0, 1)", x.lend(bad, 0, 1), NUMBER);
        }
        for (int bad : new int[] {MIN, -1, 10, MAX}) {
            due("lend(0, " + bad + ", 1)", x.lend(0, bad, 1), NUMBER);
        }
        for (int bad : new int[] {MIN, -1, 0, 501, MAX}) {
            due("lend(0, 0, " + bad + ")", x.lend(0, 0, bad), NUMBER);
        }
        due("lend(0, 9, 500)", x.lend(0, 9, 500), 0);
        due("lend(0, 9, 1) twice a year", x.lend(0, 9, 1), 1);
        due("lend(0, 0, 500)", x.lend(0, 0, 500), NONE);
        due("lend(0, 0, 499)", x.lend(0, 0, 499), 2);
        due("left(0, false)", x.left(0, false), 0);
        due("lend(0, 0, 1)", x.lend(0, 0, 1), NONE);
        due("lend(0, 0, 501)", x.lend(0, 0, 501), NUMBER);
        x.past(1, 0, 900);
        x.show(1, 0, 9);
        due("left(1, true)", x.left(1, true), 1000);
        due("lend(1, 0, 51) by the least left", x.lend(1, 0, 51), NONE);
        due("lend(1, 0, 20)", x.lend(1, 0, 20), 4);
        for (int number = 5; number < 30; number++) {
            due("lend(1, 0, 1)", x.lend(1, 0, 1), number);
        }
        due("lend(1, 0, 5) when full", x.lend(1, 0, 5), FULL);
        due("lend(1, 0, 6) when full", x.lend(1, 0, 6), NONE);
        due("lend(1, 10, 6) when full", x.lend(1, 10, 6), NUMBER);
    }

    private static void lacks() {
        promise = 11;
        LightHours x = house();
        due("lacks(0, 500)", x.lacks(0, 500), 0);
        x.past(0, 100, 900);
        due("lacks(0, 100)", x.lacks(0, 100), 0);
        due("lacks(0, 101)", x.lacks(0, 101), 1);
        due("lacks(0, 500)", x.lacks(0, 500), 400);
        x.past(0, 0, 2000);
        due("lacks(0, 1)", x.lacks(0, 1), 1001);
        due("lacks(1, 1)", x.lacks(1, 1), 0);
        for (int bad : new int[] {MIN, -1, 2, MAX}) {
            due("lacks(" + bad + ", 1)", x.lacks(bad, 1), NUMBER);
        }
        for (int bad : new int[] {MIN, -1, 0, 501, MAX}) {
            due("lacks(0, " + bad + ")", x.lacks(0, bad), NUMBER);
        }
    }

    private static void cancel() {
        promise = 12;
        LightHours x = house();
        due("cancel(0)", x.cancel(0), NUMBER);
        x.show(0, 0, 0);
        x.lend(0, 1, 40);
        due("left(0, false)", x.left(0, false), 910);
        for (int bad : new int[] {MIN, -1, 2, 30, MAX}) {
            due("cancel(" + bad + ")", x.cancel(bad), NUMBER);
        }
        due("cancel(0)", x.cancel(0), 1);
        due("left(0, false)", x.left(0, false), 960);
        due("cancel(0)", x.cancel(0), TWICE);
        due("cancel(1)", x.cancel(1), 1);
        due("left(0, false)", x.left(0, false), 1000);
        due("many(2)", x.many(2), 2);
        due("many(3)", x.many(3), 2);
        due("show(0, 0, 0)", x.show(0, 0, 0), 2);
        due("booking(2, 6)", x.booking(2, 6), 0);
    }

    private static void booking() {
        promise = 13;
        LightHours x = house();
        x.show(1, 1, 7);
        x.lend(0, 2, 33);
        int[] ofShow = {0, 1, 1, 7, 0, 100, 0};
        int[] ofLoan = {1, 0, NONE, 2, 33, 33, 0};
        for (int what = 0; what <= 6; what++) {
            due("booking(0, " + what + ")", x.booking(0, what), ofShow[what]);
            due("booking(1, " + what + ")", x.booking(1, what), ofLoan[what]);
        }
        x.reading(1, 7, 60);
        due("booking(0, 4) as the reading is now", x.booking(0, 4), 60);
        due("booking(0, 5) as the reading is now", x.booking(0, 5), 60);
        x.reading(1, 7, -1);
        due("booking(0, 4)", x.booking(0, 4), 0);
        x.cancel(0);
        due("booking(0, 5) when cancelled", x.booking(0, 5), 100);
        due("booking(0, 6)", x.booking(0, 6), 1);
        due("booking(1, 6)", x.booking(1, 6), 0);
        for (int bad : new int[] {MIN, -1, 7, MAX}) {
            due("booking(0, " + bad + ")", x.booking(0, bad), NUMBER);
        }
        for (int bad : new int[] {MIN, -1, 2, 30, MAX}) {
            due("booking(" + bad + ", 0)", x.booking(bad, 0), NUMBER);
        }
    }

    private static void thread() {
        promise = 14;
        LightHours x = house();
        for (int bad : new int[] {MIN, -1, 2, MAX}) {
            due("thread(" + bad + ", 0, 0)", x.thread(bad, 0, 0), NUMBER);
        }
        for (int bad : new int[] {MIN, -1, 10, MAX}) {
            due("thread(0, " + bad + ", 0)", x.thread(0, bad, 0), NUMBER);
        }
        for (int bad : new int[] {MIN, -1, 8, MAX}) {
            due("thread(0, 0, " + bad + ")", x.thread(0, 0, bad), NUMBER);
        }
        due("thread(0, 0, 0)", x.thread(0, 0, 0), 0);
        due("thread(0, 0, 0) again", x.thread(0, 0, 0), 1);
        due("thread(1, 9, 7)", x.thread(1, 9, 7), 2);
        for (int number = 3; number < 12; number++) {
            due("thread(0, 5, 1)", x.thread(0, 5, 1), number);
        }
        due("thread(0, 5, 1)", x.thread(0, 5, 1), FULL);
        due("thread(0, 5, 8) when full", x.thread(0, 5, 8), NUMBER);
        due("many(4)", x.many(4), 12);
    }

    private static void cut() {
        promise = 15;
        LightHours x = house();
        x.past(0, 0, 100);
        x.past(1, 0, 100);
        x.thread(0, 0, 1);
        x.thread(1, 0, 2);
        due("cut()", x.cut(), 1);
        due("pastOf(1, true)", x.pastOf(1, true), 100);
        due("pastOf(0, true)", x.pastOf(0, true), 19);
        due("thread(1, 0, 3)", x.thread(1, 0, 3), 1);
        due("cut()", x.cut(), 1);
        due("cut()", x.cut(), 0);
        due("pastOf(0, true)", x.pastOf(0, true), 100);
        due("cut()", x.cut(), NONE);
        due("many(4)", x.many(4), 0);
    }

    private static void pastOf() {
        promise = 16;
        int[] steps = {0, 10, 20, 40, 80, 160, 320, 640, 100000};
        for (int step = 0; step < 8; step++) {
            LightHours x = house();
            x.past(0, 0, 2000);
            x.thread(0, 0, step);
            due("pastOf(0, false) by step " + step, x.pastOf(0, false), steps[step]);
            due("pastOf(0, true) by step " + step, x.pastOf(0, true), Math.min(2000, steps[step + 1] - 1));
        }
        LightHours x = house();
        x.past(0, 5, 300);
        x.show(0, 0, 2);
        x.lend(0, 4, 10);
        x.show(0, 1, 6);
        x.reading(1, 6, 100);
        due("thread(0, 1, 4) ahead of all bookings", x.thread(0, 1, 4), 0);
        due("pastOf(0, false)", x.pastOf(0, false), 80);
        due("pastOf(0, true)", x.pastOf(0, true), 159);
        due("thread(0, 2, 4) with the first show", x.thread(0, 2, 4), 1);
        due("pastOf(0, false)", x.pastOf(0, false), 80);
        due("pastOf(0, true)", x.pastOf(0, true), 159);
        x.reading(0, 2, 30);
        due("pastOf(0, true)", x.pastOf(0, true), 129);
        due("thread(0, 6, 5) with all", x.thread(0, 6, 5), 2);
        due("pastOf(0, false)", x.pastOf(0, false), 80);
        due("pastOf(0, true)", x.pastOf(0, true), 129);
        due("thread(0, 5, 5) with two", x.thread(0, 5, 5), 3);
        due("pastOf(0, false)", x.pastOf(0, false), 120);
        x.cancel(1);
        due("of(0, 5) when they quarrel", x.of(0, 5), 1);
        due("pastOf(0, false) when they quarrel", x.pastOf(0, false), 5);
        due("pastOf(0, true) when they quarrel", x.pastOf(0, true), 300);
        due("reading(0, 2, 31)", x.reading(0, 2, 31), 1);
        due("pastOf(0, false) at odds by one still", x.pastOf(0, false), 5);
        due("reading(0, 2, -1)", x.reading(0, 2, -1), 1);
        due("of(0, 5) when the show may have spent enough", x.of(0, 5), 0);
        due("pastOf(0, false)", x.pastOf(0, false), 110);
        due("pastOf(0, true)", x.pastOf(0, true), 159);
        for (int bad : new int[] {MIN, -1, 2, 8, MAX}) {
            due("pastOf(" + bad + ", true)", x.pastOf(bad, true), NUMBER);
        }
        pastOfOnePoint();
        quarrelWithTold();
    }

    private static void pastOfOnePoint() {
        LightHours x = house();
        x.past(0, 19, 30);
        x.thread(0, 0, 1);
        due("pastOf(0, false) of one point", x.pastOf(0, false), 19);
        due("pastOf(0, true) of one point", x.pastOf(0, true), 19);
        due("of(0, 5) of one point", x.of(0, 5), 0);
        due("pastOf(1, true) of another sheet", x.pastOf(1, true), 0);
    }

    private static void quarrelWithTold() {
        LightHours x = house();
        x.thread(0, 9, 1);
        due("of(0, 5) of one thread and the told past", x.of(0, 5), 1);
        due("pastOf(0, true)", x.pastOf(0, true), 0);
        x.lend(0, 9, 10);
        due("of(0, 5) with a loan that agrees", x.of(0, 5), 0);
        x.lend(0, 9, 10);
        due("of(0, 5) with a loan too much", x.of(0, 5), 1);
        due("pastOf(0, false) not below 0", x.pastOf(0, false), 0);
        due("left(0, false)", x.left(0, false), 980);
    }

    private static void spent() {
        promise = 17;
        LightHours x = house();
        x.past(0, 10, 20);
        x.show(0, 0, 3);
        x.show(0, 1, 5);
        x.lend(0, 7, 40);
        x.lend(1, 0, 400);
        int[] least = {10, 10, 10, 10, 10, 10, 10, 50, 50, 50};
        int[] greatest = {20, 20, 20, 70, 70, 170, 170, 210, 210, 210};
        for (int year = 0; year <= 9; year++) {
            due("spent(0, " + year + ", false)", x.spent(0, year, false), least[year]);
            due("spent(0, " + year + ", true)", x.spent(0, year, true), greatest[year]);
        }
        x.reading(1, 5, 60);
        due("spent(0, 4, false)", x.spent(0, 4, false), 10);
        due("spent(0, 5, false)", x.spent(0, 5, false), 70);
        due("spent(0, 9, true)", x.spent(0, 9, true), 170);
        x.cancel(1);
        due("spent(0, 9, false)", x.spent(0, 9, false), 50);
        x.thread(0, 0, 1);
        due("spent(0, 0, true) by a thread", x.spent(0, 0, true), 19);
        due("spent(0, 9, true) by a thread", x.spent(0, 9, true), 109);
        for (int bad : new int[] {MIN, -1, 2, 8, MAX}) {
            due("spent(" + bad + ", 0, true)", x.spent(bad, 0, true), NUMBER);
        }
        for (int bad : new int[] {MIN, -1, 10, MAX}) {
            due("spent(0, " + bad + ", true)", x.spent(0, bad, true), NUMBER);
        }
    }

    private static void left() {
        promise = 18;
        LightHours x = house();
        due("left(0, false)", x.left(0, false), 1000);
        due("left(0, true)", x.left(0, true), 1000);
        x.past(0, 100, 300);
        x.show(0, 1, 9);
        due("left(0, false)", x.left(0, false), 600);
        due("left(0, true)", x.left(0, true), 900);
        x.reading(1, 9, 40);
        due("left(0, false)", x.left(0, false), 660);
        due("left(0, true)", x.left(0, true), 860);
        x.past(0, 1000, 2000);
        due("left(0, false) below 0", x.left(0, false), -1040);
        due("left(0, true) below 0", x.left(0, true), -40);
        due("left(1, false)", x.left(1, false), 1000);
        for (int bad : new int[] {MIN, -1, 2, 8, MAX}) {
            due("left(" + bad + ", true)", x.left(bad, true), NOTHING);
            due("left(" + bad + ", false)", x.left(bad, false), NOTHING);
        }
    }

    private static void step() {
        promise = 19;
        int[] steps = {0, 10, 20, 40, 80, 160, 320, 640};
        LightHours x = house();
        for (int step = 0; step < 8; step++) {
            x.past(0, steps[step], 2000);
            due("step(0, 0, false) of " + steps[step], x.step(0, 0, false), step);
            due("step(0, 0, true) of 2000", x.step(0, 0, true), 7);
            if (step > 0) {
                x.past(0, 0, steps[step] - 1);
                due("step(0, 0, false) of 0", x.step(0, 0, false), 0);
                due("step(0, 0, true) of " + (steps[step] - 1), x.step(0, 0, true), step - 1);
            }
        }
        x.past(0, 5, 15);
        x.show(0, 1, 4);
        due("step(0, 3, true)", x.step(0, 3, true), 1);
        due("step(0, 4, true)", x.step(0, 4, true), 4);
        due("step(0, 4, false)", x.step(0, 4, false), 0);
        x.reading(1, 4, 75);
        due("step(0, 9, false)", x.step(0, 9, false), 4);
        for (int bad : new int[] {MIN, -1, 2, 8, MAX}) {
            due("step(" + bad + ", 0, true)", x.step(bad, 0, true), NUMBER);
        }
        for (int bad : new int[] {MIN, -1, 10, MAX}) {
            due("step(0, " + bad + ", true)", x.step(0, bad, true), NUMBER);
        }
    }

    private static void wall() {
        promise = 20;
        LightHours x = house();
        for (int bad : new int[] {MIN, -1, 2, 4, MAX}) {
            due("wall(" + bad + ", 0, 0)", x.wall(bad, 0, 0), NUMBER);
        }
        for (int bad : new int[] {MIN, -1, 10, MAX}) {
            due("wall(0, " + bad + ", 0)", x.wall(0, bad, 0), NUMBER);
        }
        for (int bad : new int[] {MIN, -1, 4, MAX}) {
            due("wall(0, 0, " + bad + ")", x.wall(0, 0, bad), NUMBER);
        }
        due("wall(0, 0, 0)", x.wall(0, 0, 0), 0);
        due("wall(0, 0, 0) again", x.wall(0, 0, 0), 1);
        due("wall(1, 9, 3)", x.wall(1, 9, 3), 2);
        due("many(5)", x.many(5), 3);
        due("wall(1, 4, 3)", x.wall(1, 4, 3), 3);
        due("wall(1, 5, 3)", x.wall(1, 5, 3), 4);
        due("wall(1, 6, 3)", x.wall(1, 6, 3), FULL);
        due("wall(1, 10, 3) when full", x.wall(1, 10, 3), NUMBER);
        due("many(5)", x.many(5), 5);
    }

    private static void strip() {
        promise = 21;
        LightHours x = house();
        due("strip()", x.strip(), NONE);
        x.wall(0, 0, 0);
        x.wall(0, 5, 0);
        due("worth()", x.worth(), 10);
        due("strip()", x.strip(), 1);
        due("hung(1)", x.hung(1), NUMBER);
        due("hung(0)", x.hung(0), 0);
        due("worth()", x.worth(), 5);
        due("wall(1, 0, 0)", x.wall(1, 0, 0), 1);
        due("hung(1)", x.hung(1), 1);
        due("strip()", x.strip(), 1);
        due("strip()", x.strip(), 0);
        due("strip()", x.strip(), NONE);
        due("many(5)", x.many(5), 0);
    }

    private static void hung() {
        promise = 22;
        LightHours x = new LightHours();
        x.room(10);
        x.wall(0, 0, 2);
        due("hung(0) without sheets", x.hung(0), NONE);
        x.sheet(100, 11, 9, 0);
        due("hung(0) without the theme", x.hung(0), NONE);
        x.sheet(100, 4, 1, 0);
        due("hung(0)", x.hung(0), 1);
        x.sheet(100, 6, 2, 0);
        due("hung(0) of greater value", x.hung(0), 2);
        x.wall(0, 0, 1);
        due("hung(0) beside a wall for themes 0, 1, 3", x.hung(0), 2);
        due("hung(1)", x.hung(1), 0);
        for (int bad : new int[] {MIN, -1, 2, 5, MAX}) {
            due("hung(" + bad + ")", x.hung(bad), NUMBER);
        }
        for (int theme = 0; theme < 4; theme++) {
            LightHours y = new LightHours();
            y.room(10);
            y.sheet(100, 1 << theme, 1, 0);
            y.sheet(100, 15 - (1 << theme), 1, 0);
            for (int wanted = 0; wanted < 4; wanted++) {
                y.wall(0, wanted, wanted);
            }
            for (int wanted = 0; wanted < 4; wanted++) {
                due("hung of theme " + wanted, y.hung(wanted), wanted == theme ? 0 : 1);
            }
        }
    }

    private static void hungWithRest() {
        for (int rest = 0; rest <= 3; rest++) {
            for (int away = 0; away <= 5; away++) {
                LightHours x = new LightHours();
                x.room(10);
                x.sheet(1000, 1, 1, rest);
                x.wall(0, 9, 0);
                x.wall(0, 9 - away, 0);
                due("hung(1), rest " + rest + ", " + away + " away", x.hung(1), away > rest ? 0 : NONE);
                x.strip();
                x.lend(0, 9 - away, 1);
                due("hung(0) with a loan", x.hung(0), 0);
                x.show(0, 0, 9 - away);
                due("hung(0), rest " + rest + ", shown " + away + " ahead", x.hung(0), away > rest ? 0 : NONE);
                x.cancel(1);
                due("hung(0) with the show cancelled", x.hung(0), 0);
                x.strip();
                x.wall(0, 9 - away, 0);
                x.show(0, 0, 9);
                due("hung(0), rest " + rest + ", shown " + away + " behind", x.hung(0), away > rest ? 0 : NONE);
            }
        }
    }

    private static void hungWithSisters() {
        LightHours x = new LightHours();
        x.room(10);
        x.sheet(1000, 1, 1, 3);
        x.sheet(1000, 2, 2, 3);
        x.wall(0, 5, 0);
        x.wall(0, 5, 1);
        due("worth() ahead of sisters", x.worth(), 3);
        x.sisters(1, 0);
        due("hung(0) by sisters", x.hung(0), NONE);
        due("hung(1) by sisters", x.hung(1), 1);
        x.strip();
        due("hung(0) alone", x.hung(0), 0);
        x.wall(0, 6, 1);
        due("hung(1) in the year behind", x.hung(1), 1);
        due("hung(0) in the year ahead", x.hung(0), 0);
        x.show(1, 0, 4);
        due("hung(0) with the sister shown a year ahead", x.hung(0), 0);
        x.cancel(0);
        x.show(1, 0, 5);
        due("hung(0) with the sister shown", x.hung(0), NONE);
        x.cancel(1);
        due("hung(0) with the show cancelled", x.hung(0), 0);
        x.lend(1, 5, 1);
        due("hung(0) with the sister lent", x.hung(0), 0);
        x.show(0, 0, 6);
        due("hung(1) with the other sister shown", x.hung(1), NONE);
    }

    private static void hungWithLight() {
        LightHours x = new LightHours();
        x.room(10);
        x.room(30);
        x.sheet(40, 1, 3, 0);
        x.wall(0, 0, 0);
        x.wall(1, 1, 0);
        x.wall(0, 2, 0);
        due("worth() of 40 for 10, 30, 10", x.worth(), 6);
        due("hung(0)", x.hung(0), 0);
        due("hung(1)", x.hung(1), 0);
        due("hung(2)", x.hung(2), NONE);
        x.reading(1, 1, 20);
        due("worth() of 40 for 10, 20, 10", x.worth(), 9);
        x.past(0, 0, 1);
        due("worth() of 39 for 10, 20, 10", x.worth(), 6);
        x.past(0, 0, 40);
        due("worth() of 0", x.worth(), 0);
        x.reading(0, 2, 0);
        due("hung(2) of 0 for 0", x.hung(2), 0);
        due("hung(0) of 0 for 10", x.hung(0), NONE);
        x.past(0, 0, 41);
        due("hung(2) of less than 0 for 0", x.hung(2), NONE);
        x.past(0, 0, 20);
        x.lend(0, 9, 10);
        due("worth() of 10 for 10, 20, 0", x.worth(), 6);
        x.cancel(0);
        x.past(0, 0, 100);
        x.thread(0, 5, 1);
        due("worth() of 21 by a thread", x.worth(), 6);
        x.cut();
        due("worth() when it is cut", x.worth(), 0);
    }

    private static void hungFirstAmongEquals() {
        LightHours x = new LightHours();
        x.room(10);
        x.sheet(10, 1, 5, 0);
        x.sheet(10, 1, 5, 0);
        x.wall(0, 3, 0);
        due("hung(0)", x.hung(0), 0);
        x.wall(0, 1, 0);
        x.wall(0, 2, 0);
        due("hung(0) of three", x.hung(0), 0);
        due("hung(1) of three", x.hung(1), 1);
        due("hung(2) of three", x.hung(2), NONE);
        LightHours y = new LightHours();
        y.room(10);
        y.sheet(10, 1, 4, 0);
        y.sheet(20, 3, 2, 0);
        y.wall(0, 0, 1);
        y.wall(0, 1, 0);
        y.wall(0, 2, 0);
        due("hung(0) rather a sheet than nothing", y.hung(0), 1);
        due("hung(1) the lesser sheet", y.hung(1), 0);
        due("hung(2)", y.hung(2), 1);
        due("worth()", y.worth(), 8);
        LightHours z = new LightHours();
        z.room(10);
        z.sheet(10, 3, 2, 0);
        z.sheet(10, 1, 2, 0);
        z.wall(0, 0, 0);
        z.wall(0, 0, 1);
        due("hung(0) a greater sheet for more worth", z.hung(0), 1);
        due("hung(1)", z.hung(1), 0);
    }

    /** Each change comes right behind an answer, so that an answer that was only remembered would show. */
    private static void hungAnewAfterEachChange() {
        LightHours x = new LightHours();
        due("worth() of nothing", x.worth(), 0);
        x.room(50);
        due("worth() with a room", x.worth(), 0);
        x.wall(0, 4, 0);
        due("worth() with a wall", x.worth(), 0);
        x.sheet(100, 1, 6, 0);
        due("worth() with a sheet", x.worth(), 6);
        x.lend(0, 9, 51);
        due("worth() with a loan", x.worth(), 0);
        x.reading(0, 4, 40);
        due("worth() with a reading", x.worth(), 6);
        x.past(0, 0, 40);
        due("worth() with a past", x.worth(), 0);
        x.thread(0, 0, 0);
        due("worth() with a thread that tells of a lesser past", x.worth(), 6);
        x.cut();
        due("worth() with the thread cut", x.worth(), 0);
        x.cancel(0);
        due("worth() with the loan cancelled", x.worth(), 6);
        x.sheet(100, 1, 7, 0);
        due("hung(0) with a better sheet", x.hung(0), 1);
        x.wall(0, 4, 0);
        due("worth() with another wall", x.worth(), 13);
        x.keep();
        due("worth() kept", x.worth(), 13);
        x.sisters(0, 1);
        due("worth() with sisters", x.worth(), 7);
        x.strip();
        due("hung(0) with a wall stripped", x.hung(0), 1);
        x.show(1, 0, 4);
        due("hung(0) with a show", x.hung(0), NONE);
        x.back();
        due("worth() when back", x.worth(), 13);
        x.hang();
        due("worth() when it is booked", x.worth(), 0);
    }

    private static void worth() {
        promise = 23;
        LightHours x = house();
        due("worth() without walls", x.worth(), 0);
        x.wall(0, 0, 0);
        due("worth()", x.worth(), 5);
        x.wall(0, 0, 0);
        due("worth()", x.worth(), 9);
        x.wall(0, 0, 0);
        due("worth() with a wall too many", x.worth(), 9);
        x.wall(0, 1, 0);
        x.wall(0, 2, 0);
        due("worth()", x.worth(), 19);
        x.sheet(1000, 15, 9, 0);
        due("worth() with a better sheet", x.worth(), 18 + 9 + 9);
        for (int at = 0; at < 5; at++) {
            x.sheet(1000, 15, 9, 0);
        }
        due("worth()", x.worth(), 45);
    }

    private static void spares() {
        promise = 24;
        LightHours x = house();
        due("spares(0) without walls", x.spares(0), 1000);
        x.wall(0, 0, 0);
        x.wall(1, 1, 0);
        due("spares(0)", x.spares(0), 850);
        due("spares(1)", x.spares(1), 1000);
        x.past(0, 10, 400);
        due("spares(0)", x.spares(0), 450);
        x.reading(1, 1, 20);
        due("spares(0)", x.spares(0), 530);
        x.past(0, 0, 1500);
        due("spares(0) below 0", x.spares(0), -500);
        due("spares(1)", x.spares(1), 950);
        x.show(1, 0, 2);
        due("spares(1) with a show", x.spares(1), 900);
        for (int bad : new int[] {MIN, -1, 2, 8, MAX}) {
            due("spares(" + bad + ")", x.spares(bad), NOTHING);
        }
    }

    private static void hang() {
        promise = 25;
        LightHours x = house();
        due("hang() without walls", x.hang(), 0);
        x.wall(1, 3, 0);
        x.wall(0, 3, 1);
        x.wall(0, 3, 2);
        x.wall(0, 4, 3);
        due("hang()", x.hang(), 3);
        due("many(5)", x.many(5), 0);
        int[][] shows = {{0, 0, 1, 3, 0, 100, 0}, {0, 1, 0, 3, 0, 50, 0}, {0, 0, 0, 4, 0, 50, 0}};
        for (int show = 0; show < 3; show++) {
            for (int what = 0; what <= 6; what++) {
                due("booking(" + show + ", " + what + ")", x.booking(show, what), shows[show][what]);
            }
        }
        due("many(2)", x.many(2), 3);
        due("left(0, false)", x.left(0, false), 850);
        due("worth()", x.worth(), 0);
        due("hung(0)", x.hung(0), NUMBER);
        for (int at = 3; at < 29; at++) {
            x.lend(0, 0, 1);
        }
        x.cancel(3);
        x.wall(0, 6, 0);
        x.wall(0, 7, 0);
        due("hang() of two behind 29", x.hang(), FULL);
        due("many(2)", x.many(2), 29);
        due("many(5)", x.many(5), 2);
        due("hung(1)", x.hung(1), 0);
        x.strip();
        due("hang() of one behind 29", x.hang(), 1);
        due("many(2)", x.many(2), 30);
        x.wall(0, 7, 0);
        due("hang() of one behind 30", x.hang(), FULL);
        x.past(0, 2000, 2000);
        x.past(1, 2000, 2000);
        due("hang() of nothing behind 30", x.hang(), 0);
        due("many(5)", x.many(5), 0);
    }

    private static void many() {
        promise = 26;
        LightHours x = house();
        x.sheet(10, 1, 1, 0);
        x.show(2, 0, 0);
        x.lend(0, 0, 7);
        x.lend(0, 0, 8);
        x.lend(0, 0, 9);
        x.cancel(1);
        x.cancel(3);
        x.thread(0, 0, 7);
        x.wall(0, 0, 0);
        x.wall(0, 1, 0);
        x.wall(0, 2, 0);
        x.wall(0, 3, 0);
        x.wall(0, 4, 0);
        for (int year = 0; year < 6; year++) {
            x.reading(year % 2, year, year);
        }
        int[] counts = {2, 3, 4, 2, 1, 5, 1, 0, 6};
        for (int what = 0; what <= 8; what++) {
            due("many(" + what + ")", x.many(what), counts[what]);
        }
        x.reading(0, 0, -1);
        due("many(7) with a reading missing", x.many(7), 1);
        due("many(8) with a reading missing", x.many(8), 5);
        x.past(0, 0, 993);
        due("many(7)", x.many(7), 2);
        x.past(0, 0, 992);
        due("many(7) with 0 left", x.many(7), 1);
        due("many(6) when the told past agrees", x.many(6), 0);
        x.thread(1, 0, 1);
        x.thread(2, 0, 2);
        due("many(6)", x.many(6), 1);
        x.reading(0, 0, 5);
        due("many(6)", x.many(6), 2);
        for (int bad : new int[] {MIN, -1, 9, MAX}) {
            due("many(" + bad + ")", x.many(bad), NUMBER);
        }
    }

    private static void manyOfFullHouse() {
        LightHours x = new LightHours();
        for (int room = 0; room < 4; room++) {
            x.room(200);
            for (int year = 0; year <= 9; year++) {
                x.reading(room, year, 0);
            }
        }
        for (int sheet = 0; sheet < 8; sheet++) {
            x.sheet(1, 15, 9, 0);
            x.past(sheet, 2, 2);
            x.thread(sheet, 0, 7);
        }
        for (int thread = 8; thread < 12; thread++) {
            x.thread(0, 0, 7);
        }
        for (int booking = 0; booking < 30; booking++) {
            due("show", x.show(booking % 8, booking % 4, booking / 8), booking);
            x.cancel(booking);
        }
        for (int wall = 0; wall < 5; wall++) {
            x.wall(3, 9, 3);
        }
        int[] counts = {4, 8, 30, 30, 12, 5, 8, 8, 40};
        for (int what = 0; what <= 8; what++) {
            due("many(" + what + ") of a full house", x.many(what), counts[what]);
        }
        x.keep();
        for (int sheet = 0; sheet < 8; sheet++) {
            x.past(sheet, 0, 0);
        }
        due("worth() of a full house", x.worth(), 45);
        due("spares(4)", x.spares(4), 1);
        due("hang() of a full house", x.hang(), FULL);
        x.back();
        due("worth() of a full house that is spent", x.worth(), 0);
        due("hang() of nothing", x.hang(), 0);
    }

    private static void keep() {
        promise = 27;
        LightHours x = house();
        due("keep()", x.keep(), 1);
        due("keep() again", x.keep(), 1);
        due("many(1)", x.many(1), 2);
        x.sheet(1, 1, 1, 1);
        x.keep();
        x.sheet(1, 1, 1, 1);
        x.back();
        due("many(1) of the latest kept", x.many(1), 3);
        LightHours empty = new LightHours();
        empty.keep();
        empty.room(5);
        due("back() to an empty one", empty.back(), 1);
        due("many(0)", empty.many(0), 0);
    }

    private static void back() {
        promise = 28;
        LightHours x = house();
        due("back()", x.back(), NONE);
        due("many(0)", x.many(0), 2);
        x.keep();
        x.room(7);
        due("back()", x.back(), 1);
        due("many(0)", x.many(0), 2);
        due("room(9)", x.room(9), 2);
        due("light(2, 0, true)", x.light(2, 0, true), 9);
        due("back() once more", x.back(), 1);
        due("many(0)", x.many(0), 2);
        x.room(9);
        x.reading(2, 3, 4);
        x.sheet(5, 1, 1, 0);
        x.past(2, 4, 4);
        x.sisters(2, 0);
        x.lend(1, 0, 1);
        x.cancel(0);
        x.back();
        x.room(9);
        due("light(2, 3, true) of a room made anew", x.light(2, 3, true), 9);
        x.sheet(5, 1, 1, 0);
        due("pastOf(2, true) of a sheet made anew", x.pastOf(2, true), 0);
        due("of(2, 4) of a sheet made anew", x.of(2, 4), NONE);
        due("of(0, 4)", x.of(0, 4), NONE);
        x.lend(1, 0, 1);
        due("booking(0, 6) of one made anew", x.booking(0, 6), 0);
    }

    private static void backOfEverything() {
        LightHours x = house();
        x.reading(0, 1, 11);
        x.past(0, 100, 200);
        x.sisters(0, 1);
        x.show(0, 0, 2);
        x.lend(1, 3, 44);
        x.thread(0, 0, 4);
        x.wall(1, 7, 2);
        x.wall(1, 8, 2);
        int[] before = allAnswers(x);
        x.keep();
        x.reading(0, 1, 12);
        x.reading(0, 2, 12);
        x.past(0, 100, 300);
        x.past(1, 100, 300);
        x.cancel(0);
        x.cancel(1);
        x.lend(0, 3, 45);
        x.cut();
        x.thread(1, 5, 5);
        x.thread(0, 3, 4);
        x.strip();
        x.strip();
        x.wall(0, 0, 0);
        x.wall(0, 1, 1);
        x.wall(0, 2, 1);
        x.worth();
        x.back();
        compare(before, allAnswers(x));
        x.hang();
        x.back();
        compare(before, allAnswers(x));
        backOfThreads();
        backOfWalls();
    }

    private static void backOfThreads() {
        LightHours x = house();
        x.past(0, 0, 500);
        x.lend(0, 5, 100);
        x.thread(0, 4, 2);
        x.keep();
        x.cut();
        x.thread(0, 5, 4);
        x.thread(0, 6, 4);
        x.back();
        due("many(4) when back", x.many(4), 1);
        due("pastOf(0, false) when back", x.pastOf(0, false), 20);
        x.cut();
        x.thread(0, 6, 2);
        due("of(0, 5) ahead of back", x.of(0, 5), 1);
        x.back();
        due("of(0, 5) when back", x.of(0, 5), 0);
        x.cut();
        x.thread(1, 4, 2);
        x.back();
        due("of(0, 7) when back", x.of(0, 7), 1);
    }

    private static void backOfWalls() {
        LightHours x = new LightHours();
        x.room(50);
        x.room(60);
        x.sheet(55, 1, 5, 0);
        x.show(0, 0, 1);
        x.reading(0, 1, 0);
        x.wall(0, 0, 0);
        x.keep();
        x.strip();
        x.wall(1, 0, 0);
        due("hung(0) with another room", x.hung(0), NONE);
        x.back();
        due("hung(0) with the room back", x.hung(0), 0);
        x.strip();
        x.wall(0, 1, 0);
        due("hung(0) with another year", x.hung(0), NONE);
        x.back();
        due("hung(0) with the year back", x.hung(0), 0);
        x.strip();
        x.wall(0, 0, 1);
        due("hung(0) with another theme", x.hung(0), NONE);
        x.back();
        due("hung(0) with the theme back", x.hung(0), 0);
    }

    private static void compare(int[] before, int[] after) {
        for (int at = 0; at < before.length; at++) {
            due("answer " + at + " after back()", after[at], before[at]);
        }
    }

    private static int[] allAnswers(LightHours x) {
        int[] answers = new int[400];
        int at = 0;
        for (int what = 0; what <= 8; what++) {
            answers[at++] = x.many(what);
        }
        for (int sheet = 0; sheet < 2; sheet++) {
            for (int what = 0; what <= 7; what++) {
                answers[at++] = x.of(sheet, what);
            }
            for (int year = 0; year <= 9; year++) {
                answers[at++] = x.spent(sheet, year, false);
                answers[at++] = x.spent(sheet, year, true);
            }
            answers[at++] = x.spares(sheet);
        }
        for (int booking = 0; booking < 3; booking++) {
            for (int what = 0; what <= 6; what++) {
                answers[at++] = x.booking(booking, what);
            }
        }
        for (int room = 0; room < 2; room++) {
            for (int year = 0; year <= 9; year++) {
                answers[at++] = x.light(room, year, false);
            }
        }
        for (int wall = 0; wall < 3; wall++) {
            answers[at++] = x.hung(wall);
        }
        answers[at++] = x.worth();
        return answers;
    }
}
