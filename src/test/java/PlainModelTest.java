import java.util.ArrayList;
import java.util.Arrays;
import java.util.List;
import java.util.Random;

/**
 * Long runs of calls, drawn by a fixed seed, on LightHours and on a model that is written straight from DOC.md's
 * terms: it remembers nothing that it has found, and looks at every HANG there is to find THE HANG.
 */
public final class PlainModelTest {
    /** More runs may be asked for on the command line. */
    private static final int RUNS = 60;
    private static final int CALLS = 512;
    private static final int NUMBER = -1;
    private static final int FULL = -2;
    private static final int TWICE = -3;
    private static final int NONE = -4;
    private static final int NOTHING = -1000000;
    private static final int[] T = {0, 10, 20, 40, 80, 160, 320, 640, 100000};
    private static final int STYLES = 5;
    /** Runs of this style draw from all that may be, and from one beyond it. */
    private static final int WIDE_STYLE = 4;
    /** By call: the least and the greatest that each argument may be at all. */
    private static final int[][] WIDE = {{1, 200}, {0, 3, 0, 9, -1, 200}, {0, 3, 0, 9}, {1, 2000, 1, 15, 1, 9, 0, 3},
        {0, 7, 0, 7}, {0, 7, 0, 2000, 0, 2000}, {0, 7, 0, 7}, {0, 7, 0, 3, 0, 9}, {0, 7, 0, 9, 1, 500}, {0, 7, 1, 500},
        {0, 29}, {0, 29, 0, 6}, {0, 7, 0, 9, 0, 7}, {}, {0, 7}, {0, 7, 0, 9}, {0, 7}, {0, 3, 0, 9, 0, 3}, {0, 7, 0, 9}, {},
        {0, 4}, {}, {}, {0, 7}, {}, {}, {0, 8}};

    public static void main(String[] args) {
        int[] answered = new int[Model.CALL_NAMES.length];
        int[] refused = new int[Model.CALL_NAMES.length];
        int runs = args.length > 0 ? Integer.parseInt(args[0]) : RUNS;
        for (int run = 0; run < runs; run++) {
            if (!agree(run, answered, refused)) {
                System.exit(1);
            }
        }
        boolean dull = false;
        for (int call = 0; call < answered.length; call++) {
            if (answered[call] < 20) {
                System.out.println(Model.CALL_NAMES[call] + " was answered only " + answered[call] + " times");
                dull = true;
            }
        }
        System.out.println(dull ? "the runs are too dull" : "LightHours and the plain model agree");
        if (dull) {
            System.exit(1);
        }
    }

    private static boolean agree(int run, int[] answered, int[] refused) {
        Random random = new Random(run);
        LightHours x = new LightHours();
        Model model = new Model();
        List<String> calls = new ArrayList<>();
        int style = run % STYLES;
        for (int at = 0; at < CALLS; at++) {
            int call = drawCall(random, style, at);
            int[] a = drawArguments(random, call, style);
            boolean greatest = random.nextBoolean();
            int want = model.answer(call, a, greatest);
            int got = ask(x, call, a, greatest);
            calls.add(Model.CALL_NAMES[call] + Arrays.toString(a) + greatest + " = " + want);
            if (want >= 0) {
                answered[call]++;
            } else {
                refused[call]++;
            }
            if (got != want) {
                calls.forEach(System.out::println);
                System.out.println("run " + run + ": answered " + got + ", due is " + want);
                return false;
            }
        }
        return true;
    }

    private static int drawCall(Random random, int style, int at) {
        if (at < 12) {
            return new int[] {0, 3, 3, 5, 3, 0, 4, 3, 3, 1, 17, 17}[at];
        }
        int call = random.nextInt(Model.CALL_NAMES.length);
        // hang() clears the walls, back() and keep() flatten a run: they come more rarely than the rest.
        boolean rare = call == 22 || call == 24 || call == 25;
        if (rare && random.nextInt(8) != 0) {
            return 17;
        }
        // The house must fill up ever again for THE HANG to be a hard one.
        return style == 1 && call == 9 ? 17 : call;
    }

    private static int[] drawArguments(Random random, int call, int style) {
        int[] a = new int[4];
        for (int i = 0; i < 4; i++) {
            a[i] = style == WIDE_STYLE ? drawWide(random, call, i) : drawArgument(random, call, i, style);
        }
        if (random.nextInt(40) == 0) {
            int[] odd = {-2, -1, Integer.MIN_VALUE, Integer.MAX_VALUE, 10, 30, 31};
            a[random.nextInt(4)] = odd[random.nextInt(odd.length)];
        }
        return a;
    }

    private static int drawArgument(Random random, int call, int i, int style) {
        int light = style == 0 ? 200 : 60;
        switch (call) {
            case 0: return 1 + random.nextInt(light);
            case 1: return new int[] {random.nextInt(4), random.nextInt(10), random.nextInt(light / 3) - 1, 0}[i];
            case 2: return new int[] {random.nextInt(4), random.nextInt(10), 0, 0}[i];
            case 3: return new int[] {1 + random.nextInt(style < 2 ? 150 : 600), style == 3 ? 15 : 1 + random.nextInt(15),
                1 + random.nextInt(9), random.nextInt(4)}[i];
            case 5: return new int[] {random.nextInt(8), random.nextInt(60), 30 + random.nextInt(120), 0}[i];
            case 8: return new int[] {random.nextInt(8), random.nextInt(10), 1 + random.nextInt(40), 0}[i];
            case 9: return new int[] {random.nextInt(8), 1 + random.nextInt(500), 0, 0}[i];
            case 10: return random.nextInt(20);
            case 11: return i == 0 ? random.nextInt(30) : random.nextInt(8);
            case 12: return new int[] {random.nextInt(8), random.nextInt(10), random.nextInt(6), 0}[i];
            case 18: return new int[] {random.nextInt(4), random.nextInt(5), random.nextInt(4), 0}[i];
            case 17: return new int[] {random.nextInt(3), random.nextInt(style == 2 ? 3 : 6), random.nextInt(4), 0}[i];
            default: return new int[] {random.nextInt(9), random.nextInt(9), random.nextInt(10), 0}[i];
        }
    }

    private static int drawWide(Random random, int call, int i) {
        if (2 * i >= WIDE[call].length) {
            return 0;
        }
        int least = WIDE[call][2 * i];
        int greatest = WIDE[call][2 * i + 1];
        if (random.nextInt(30) == 0) {
            return random.nextBoolean() ? least - 1 : greatest + 1;
        }
        // Lesser numbers come more often, or all is spent soon and nothing can hang.
        return least + random.nextInt(greatest - least + 1) / (random.nextBoolean() ? 1 : 1 + random.nextInt(20));
    }

    private static int ask(LightHours x, int call, int[] a, boolean greatest) {
        switch (call) {
            case 0: return x.room(a[0]);
            case 1: return x.reading(a[0], a[1], a[2]);
            case 2: return x.light(a[0], a[1], greatest);
            case 3: return x.sheet(a[0], a[1], a[2], a[3]);
            case 4: return x.sisters(a[0], a[1]);
            case 5: return x.past(a[0], a[1], a[2]);
            case 6: return x.of(a[0], a[1]);
            case 7: return x.show(a[0], a[1] % 4, a[2]);
            case 8: return x.lend(a[0], a[1], a[2]);
            case 9: return x.lacks(a[0], a[1]);
            case 10: return x.cancel(a[0]);
            case 11: return x.booking(a[0], a[1]);
            case 12: return x.thread(a[0], a[1], a[2]);
            case 13: return x.cut();
            case 14: return x.pastOf(a[0], greatest);
            case 15: return x.spent(a[0], a[1], greatest);
            case 16: return x.left(a[0], greatest);
            case 17: return x.wall(a[0], a[1], a[2]);
            case 18: return x.step(a[0], a[1], greatest);
            case 19: return x.strip();
            case 20: return x.hung(a[0] % 6);
            case 21: return x.worth();
            case 22: return x.hang();
            case 23: return x.spares(a[0]);
            case 24: return x.keep();
            case 25: return x.back();
            default: return x.many(a[0]);
        }
    }

    private record Sheet(int limit, int themes, int value, int rest) { }
    private record Booking(boolean loan, int sheet, int room, int year, int amount, boolean cancelled) { }
    private record Thread(int sheet, int year, int step) { }
    private record Wall(int room, int year, int theme) { }
    private record Span(int least, int greatest) {
        int end(boolean greatestEnd) {
            return greatestEnd ? greatest : least;
        }
    }

    /** All that is so at one time; its lists are copied whole for keep() and back(). */
    private static final class State {
        final List<Integer> worsts = new ArrayList<>();
        final List<List<Integer>> readings = new ArrayList<>();
        final List<Sheet> sheets = new ArrayList<>();
        final List<Span> told = new ArrayList<>();
        final List<int[]> sisters = new ArrayList<>();
        final List<Booking> bookings = new ArrayList<>();
        final List<Thread> threads = new ArrayList<>();
        final List<Wall> walls = new ArrayList<>();

        State copy() {
            State other = new State();
            other.worsts.addAll(worsts);
            for (List<Integer> row : readings) {
                other.readings.add(new ArrayList<>(row));
            }
            other.sheets.addAll(sheets);
            other.told.addAll(told);
            other.sisters.addAll(sisters);
            other.bookings.addAll(bookings);
            other.threads.addAll(threads);
            other.walls.addAll(walls);
            return other;
        }
    }

    private static final class Model {
        static final String[] CALL_NAMES = {"room", "reading", "light", "sheet", "sisters", "past", "of", "show", "lend",
            "lacks", "cancel", "booking", "thread", "cut", "pastOf", "spent", "left", "wall", "step", "strip", "hung",
            "worth", "hang", "spares", "keep", "back", "many"};

        private State now = new State();
        private State kept = null;

        int answer(int call, int[] a, boolean greatest) {
            boolean sheet0 = a[0] >= 0 && a[0] < now.sheets.size();
            boolean sheet1 = a[1] >= 0 && a[1] < now.sheets.size();
            boolean room0 = a[0] >= 0 && a[0] < now.worsts.size();
            boolean year1 = a[1] >= 0 && a[1] <= 9;
            switch (call) {
                case 0: return room(a[0]);
                case 1: return room0 && year1 && a[2] >= -1 && a[2] <= now.worsts.get(a[0]) ? reading(a) : NUMBER;
                case 2: return room0 && year1 ? light(a[0], a[1]).end(greatest) : NUMBER;
                case 3: return sheet(a);
                case 4: return sheet0 && sheet1 && a[0] != a[1] ? sisters(a[0], a[1]) : NUMBER;
                case 5: return sheet0 && a[1] >= 0 && a[1] <= 2000 && a[2] >= a[1] && a[2] <= 2000 ? past(a) : NUMBER;
                case 6: return sheet0 ? of(a[0], a[1]) : NUMBER;
                case 7: return show(a[0], a[1] % 4, a[2]);
                case 8: return sheet0 && year1 && a[2] >= 1 && a[2] <= 500 ? lend(a) : NUMBER;
                case 9: return sheet0 && a[1] >= 1 && a[1] <= 500 ? Math.max(0, a[1] - left(a[0]).least) : NUMBER;
                case 10: return cancel(a[0]);
                case 11: return a[0] >= 0 && a[0] < now.bookings.size() ? booking(a[0], a[1]) : NUMBER;
                case 12: return sheet0 && year1 && a[2] >= 0 && a[2] <= 7 ? thread(a) : NUMBER;
                case 13: return dropLast(now.threads);
                case 14: return sheet0 ? past(a[0]).end(greatest) : NUMBER;
                case 15: return sheet0 && year1 ? spent(a[0], a[1]).end(greatest) : NUMBER;
                case 16: return sheet0 ? left(a[0]).end(greatest) : NOTHING;
                case 17: return room0 && year1 && a[2] >= 0 && a[2] <= 3 ? wall(a) : NUMBER;
                case 18: return sheet0 && year1 ? step(spent(a[0], a[1]).end(greatest)) : NUMBER;
                case 19: return dropLast(now.walls);
                case 20: return hung(a[0] % 6);
                case 21: return worthOf(theHang());
                case 22: return hang();
                case 23: return sheet0 ? left(a[0]).least - lightOf(theHang(), a[0]) : NOTHING;
                case 24: kept = now.copy(); return 1;
                case 25: return back();
                default: return many(a[0]);
            }
        }

        private int room(int worst) {
            if (worst < 1 || worst > 200) {
                return NUMBER;
            }
            if (now.worsts.size() == 4) {
                return FULL;
            }
            now.worsts.add(worst);
            now.readings.add(new ArrayList<>(java.util.Collections.nCopies(10, -1)));
            return now.worsts.size() - 1;
        }

        private int reading(int[] a) {
            now.readings.get(a[0]).set(a[1], a[2]);
            return 1;
        }

        private Span light(int room, int year) {
            int read = now.readings.get(room).get(year);
            return read == -1 ? new Span(0, now.worsts.get(room)) : new Span(read, read);
        }

        private int sheet(int[] a) {
            boolean good = a[0] >= 1 && a[0] <= 2000 && a[1] >= 1 && a[1] <= 15;
            if (!good || a[2] < 1 || a[2] > 9 || a[3] < 0 || a[3] > 3) {
                return NUMBER;
            }
            if (now.sheets.size() == 8) {
                return FULL;
            }
            now.sheets.add(new Sheet(a[0], a[1], a[2], a[3]));
            now.told.add(new Span(0, 0));
            return now.sheets.size() - 1;
        }

        private int sister(int sheet) {
            for (int[] pair : now.sisters) {
                if (pair[0] == sheet || pair[1] == sheet) {
                    return pair[0] + pair[1] - sheet;
                }
            }
            return NONE;
        }

        private int sisters(int one, int other) {
            if (sister(one) != NONE || sister(other) != NONE) {
                return TWICE;
            }
            now.sisters.add(new int[] {one, other});
            return 1;
        }

        private int past(int[] a) {
            now.told.set(a[0], new Span(a[1], a[2]));
            return 1;
        }

        private int of(int sheet, int what) {
            Sheet s = now.sheets.get(sheet);
            switch (what) {
                case 0: return s.limit;
                case 1: return s.themes;
                case 2: return s.value;
                case 3: return s.rest;
                case 4: return sister(sheet);
                case 5: return quarrels(sheet) ? 1 : 0;
                case 6: return (int) now.bookings.stream().filter(b -> b.sheet == sheet && !b.cancelled).count();
                case 7: return (int) now.threads.stream().filter(t -> t.sheet == sheet).count();
                default: return NUMBER;
            }
        }

        private boolean shown(int sheet, int year) {
            return now.bookings.stream().anyMatch(b -> !b.loan && !b.cancelled && b.sheet == sheet && b.year == year);
        }

        private int show(int sheet, int room, int year) {
            boolean good = sheet >= 0 && sheet < now.sheets.size() && room >= 0 && room < now.worsts.size();
            if (!good || year < 0 || year > 9) {
                return NUMBER;
            }
            if (shown(sheet, year)) {
                return TWICE;
            }
            return book(new Booking(false, sheet, room, year, 0, false));
        }

        private int book(Booking booking) {
            if (now.bookings.size() == 30) {
                return FULL;
            }
            now.bookings.add(booking);
            return now.bookings.size() - 1;
        }

        private int lend(int[] a) {
            return left(a[0]).least < a[2] ? NONE : book(new Booking(true, a[0], NONE, a[1], a[2], false));
        }

        private int cancel(int number) {
            if (number < 0 || number >= now.bookings.size()) {
                return NUMBER;
            }
            Booking b = now.bookings.get(number);
            if (b.cancelled) {
                return TWICE;
            }
            now.bookings.set(number, new Booking(b.loan, b.sheet, b.room, b.year, b.amount, true));
            return 1;
        }

        private Span spends(Booking b) {
            return b.loan ? new Span(b.amount, b.amount) : light(b.room, b.year);
        }

        private int booking(int number, int what) {
            Booking b = now.bookings.get(number);
            int[] answers = {b.loan ? 1 : 0, b.sheet, b.room, b.year, spends(b).least, spends(b).greatest, b.cancelled ? 1 : 0};
            return what >= 0 && what <= 6 ? answers[what] : NUMBER;
        }

        private int thread(int[] a) {
            if (now.threads.size() == 12) {
                return FULL;
            }
            now.threads.add(new Thread(a[0], a[1], a[2]));
            return now.threads.size() - 1;
        }

        private static <E> int dropLast(List<E> list) {
            if (list.isEmpty()) {
                return NONE;
            }
            list.remove(list.size() - 1);
            return list.size();
        }

        private Span spendsWith(int sheet, int year) {
            int least = 0;
            int greatest = 0;
            for (Booking b : now.bookings) {
                if (b.sheet == sheet && !b.cancelled && b.year <= year) {
                    least += spends(b).least;
                    greatest += spends(b).greatest;
                }
            }
            return new Span(least, greatest);
        }

        /** Whether a number may be the PAST of a SHEET: asked of each number alone, to be unlike the meeting of spans. */
        private boolean letBe(int sheet, int number) {
            for (Thread t : now.threads) {
                if (t.sheet == sheet) {
                    Span with = spendsWith(sheet, t.year);
                    if (number + with.greatest < T[t.step] || number + with.least > T[t.step + 1] - 1) {
                        return false;
                    }
                }
            }
            return true;
        }

        private boolean quarrels(int sheet) {
            for (int number = now.told.get(sheet).least; number <= now.told.get(sheet).greatest; number++) {
                if (letBe(sheet, number)) {
                    return false;
                }
            }
            return true;
        }

        private Span past(int sheet) {
            Span told = now.told.get(sheet);
            int least = told.least;
            int greatest = told.greatest;
            while (least <= told.greatest && !letBe(sheet, least)) {
                least++;
            }
            while (greatest >= told.least && !letBe(sheet, greatest)) {
                greatest--;
            }
            return least > told.greatest ? told : new Span(least, greatest);
        }

        private Span spent(int sheet, int year) {
            Span past = past(sheet);
            Span with = spendsWith(sheet, year);
            return new Span(past.least + with.least, past.greatest + with.greatest);
        }

        private Span left(int sheet) {
            int limit = now.sheets.get(sheet).limit;
            return new Span(limit - spent(sheet, 9).greatest, limit - spent(sheet, 9).least);
        }

        private static int step(int amount) {
            for (int step = 0; step <= 7; step++) {
                if (T[step] <= amount && amount <= T[step + 1] - 1) {
                    return step;
                }
            }
            throw new IllegalStateException("no step has " + amount);
        }

        private int wall(int[] a) {
            if (now.walls.size() == 5) {
                return FULL;
            }
            now.walls.add(new Wall(a[0], a[1], a[2]));
            return now.walls.size() - 1;
        }

        private int hung(int wall) {
            if (wall < 0 || wall >= now.walls.size()) {
                return NUMBER;
            }
            int sheet = theHang()[wall];
            return sheet == now.sheets.size() ? NONE : sheet;
        }

        /** Counts through all HANGS; nothing is the number behind the last SHEET, so the first best is THE HANG. */
        private int[] theHang() {
            int sheets = now.sheets.size();
            int[] left = new int[sheets];
            for (int sheet = 0; sheet < sheets; sheet++) {
                left[sheet] = left(sheet).least;
            }
            int[] hang = new int[now.walls.size()];
            int[] best = null;
            boolean more = true;
            while (more) {
                if ((best == null || worthOf(hang) > worthOf(best)) && isHang(hang, left)) {
                    best = hang.clone();
                }
                more = countOn(hang, sheets);
            }
            return best;
        }

        private static boolean countOn(int[] hang, int greatest) {
            for (int at = hang.length - 1; at >= 0; at--) {
                if (hang[at] < greatest) {
                    hang[at]++;
                    return true;
                }
                hang[at] = 0;
            }
            return false;
        }

        private boolean isHang(int[] hang, int[] left) {
            for (int sheet = 0; sheet < left.length; sheet++) {
                List<Integer> years = new ArrayList<>();
                for (int wall = 0; wall < hang.length; wall++) {
                    if (hang[wall] == sheet) {
                        Wall w = now.walls.get(wall);
                        if ((now.sheets.get(sheet).themes & (int) Math.pow(2, w.theme)) == 0 || clash(sheet, w, years, hang)) {
                            return false;
                        }
                        years.add(w.year);
                    }
                }
                if (!years.isEmpty() && lightOf(hang, sheet) > left[sheet]) {
                    return false;
                }
            }
            return true;
        }

        private boolean clash(int sheet, Wall w, List<Integer> years, int[] hang) {
            for (int year = 0; year <= 9; year++) {
                int between = Math.max(0, Math.abs(year - w.year) - 1);
                boolean tooNear = year == w.year || between < now.sheets.get(sheet).rest;
                if (tooNear && (years.contains(year) || shown(sheet, year))) {
                    return true;
                }
            }
            int sister = sister(sheet);
            for (int wall = 0; wall < hang.length; wall++) {
                if (hang[wall] == sister && now.walls.get(wall).year == w.year) {
                    return true;
                }
            }
            return sister != NONE && shown(sister, w.year);
        }

        private int worthOf(int[] hang) {
            int worth = 0;
            for (int sheet : hang) {
                worth += sheet == now.sheets.size() ? 0 : now.sheets.get(sheet).value;
            }
            return worth;
        }

        private int lightOf(int[] hang, int sheet) {
            int light = 0;
            for (int wall = 0; wall < hang.length; wall++) {
                if (hang[wall] == sheet) {
                    light += light(now.walls.get(wall).room, now.walls.get(wall).year).greatest;
                }
            }
            return light;
        }

        private int hang() {
            int[] hang = theHang();
            List<Booking> shows = new ArrayList<>();
            for (int wall = 0; wall < hang.length; wall++) {
                if (hang[wall] < now.sheets.size()) {
                    shows.add(new Booking(false, hang[wall], now.walls.get(wall).room, now.walls.get(wall).year, 0, false));
                }
            }
            if (now.bookings.size() + shows.size() > 30) {
                return FULL;
            }
            now.bookings.addAll(shows);
            now.walls.clear();
            return shows.size();
        }

        private int back() {
            if (kept == null) {
                return NONE;
            }
            now = kept.copy();
            return 1;
        }

        private int many(int what) {
            int quarrelling = 0;
            int below = 0;
            for (int sheet = 0; sheet < now.sheets.size(); sheet++) {
                quarrelling += quarrels(sheet) ? 1 : 0;
                below += left(sheet).least < 0 ? 1 : 0;
            }
            int there = 0;
            for (List<Integer> row : now.readings) {
                there += (int) row.stream().filter(v -> v != -1).count();
            }
            int gone = (int) now.bookings.stream().filter(b -> b.cancelled).count();
            int[] counts = {now.worsts.size(), now.sheets.size(), now.bookings.size(), gone, now.threads.size(),
                now.walls.size(), quarrelling, below, there};
            return what >= 0 && what <= 8 ? counts[what] : NUMBER;
        }
    }
}
