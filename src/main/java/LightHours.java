/**
 * A house of prints that may be shown only so much light. The promises that this class keeps are numbered in DOC.md;
 * words in capitals in the comments are the terms of that document.
 */
public final class LightHours {
    public static final int NUMBER = -1;
    public static final int FULL = -2;
    public static final int TWICE = -3;
    public static final int NONE = -4;
    public static final int NOTHING = -1000000;

    private static final int YEARS = 10;
    private static final int LAST_YEAR = 9;
    private static final int MISSING = -1;

    private static final int MOST_ROOMS = 4;
    private static final int MOST_SHEETS = 8;
    private static final int MOST_BOOKINGS = 30;
    private static final int MOST_THREADS = 12;
    private static final int MOST_WALLS = 5;

    private static final int MOST_WORST = 200;
    private static final int MOST_LIMIT = 2000;
    private static final int MOST_THEMES = 15;
    private static final int MOST_VALUE = 9;
    private static final int MOST_REST = 3;
    private static final int MOST_PAST = 2000;
    private static final int MOST_AMOUNT = 500;
    private static final int LAST_STEP = 7;
    private static final int LAST_THEME = 3;

    /** T of the document: STEP s goes from STEPS[s] to STEPS[s + 1] less 1. */
    private static final int[] STEPS = {0, 10, 20, 40, 80, 160, 320, 640, 100000};

    private final House house;
    private final Ledger ledger;
    private final Hanging hanging;
    /** What was kept latest; null while nothing is kept. */
    private House kept;

    public LightHours() {
        House empty = new House();
        Ledger spans = new Ledger(empty);
        house = empty;
        ledger = spans;
        hanging = new Hanging(empty, spans);
        kept = null;
    }

    // ---- rooms and sheets

    public int room(int worst) {
        if (!within(worst, 1, MOST_WORST)) {
            return NUMBER;
        }
        if (house.rooms.count >= MOST_ROOMS) {
            return FULL;
        }
        return changed(house.rooms.add(worst));
    }

    public int reading(int room, int year, int v) {
        if (!house.rooms.has(room) || !isYear(year) || !within(v, MISSING, house.rooms.worst[room])) {
            return NUMBER;
        }
        house.rooms.read(room, year, v);
        return changed(1);
    }

    public int light(int room, int year, boolean greatest) {
        if (!house.rooms.has(room) || !isYear(year)) {
            return NUMBER;
        }
        return house.rooms.lightEnd(room, year, greatest);
    }

    public int sheet(int limit, int themes, int value, int rest) {
        if (!within(limit, 1, MOST_LIMIT) || !within(themes, 1, MOST_THEMES)) {
            return NUMBER;
        }
        if (!within(value, 1, MOST_VALUE) || !within(rest, 0, MOST_REST)) {
            return NUMBER;
        }
        if (house.sheets.count >= MOST_SHEETS) {
            return FULL;
        }
        return changed(house.sheets.add(limit, themes, value, rest));
    }

    public int sisters(int sheet, int other) {
        Sheets sheets = house.sheets;
        if (!sheets.has(sheet) || !sheets.has(other) || sheet == other) {
            return NUMBER;
        }
        if (sheets.sister[sheet] != NONE || sheets.sister[other] != NONE) {
            return TWICE;
        }
        sheets.sister[sheet] = other;
        sheets.sister[other] = sheet;
        return changed(1);
    }

    public int past(int sheet, int least, int greatest) {
        if (!house.sheets.has(sheet) || !within(least, 0, MOST_PAST) || !within(greatest, least, MOST_PAST)) {
            return NUMBER;
        }
        house.sheets.toldLeast[sheet] = least;
        house.sheets.toldGreatest[sheet] = greatest;
        return changed(1);
    }

    public int of(int sheet, int what) {
        Sheets sheets = house.sheets;
        if (!sheets.has(sheet)) {
            return NUMBER;
        }
        switch (what) {
            case 0: return sheets.limit[sheet];
            case 1: return sheets.themes[sheet];
            case 2: return sheets.value[sheet];
            case 3: return sheets.rest[sheet];
            case 4: return sheets.sister[sheet];
            case 5: return ledger.openAt(sheet).quarrels ? 1 : 0;
            case 6: return house.bookings.countOf(sheet);
            case 7: return house.threads.countOf(sheet);
            default: return NUMBER;
        }
    }

    // ---- bookings and threads

    public int show(int sheet, int room, int year) {
        if (!house.sheets.has(sheet) || !house.rooms.has(room) || !isYear(year)) {
            return NUMBER;
        }
        if (house.bookings.shownWithin(sheet, year, 0)) {
            return TWICE;
        }
        if (house.bookings.count >= MOST_BOOKINGS) {
            return FULL;
        }
        return changed(house.bookings.addShow(sheet, room, year));
    }

    public int lend(int sheet, int year, int amount) {
        if (!house.sheets.has(sheet) || !isYear(year) || !within(amount, 1, MOST_AMOUNT)) {
            return NUMBER;
        }
        if (ledger.openAt(sheet).leftEnd(false) < amount) {
            return NONE;
        }
        if (house.bookings.count >= MOST_BOOKINGS) {
            return FULL;
        }
        return changed(house.bookings.addLoan(sheet, year, amount));
    }

    public int lacks(int sheet, int amount) {
        if (!house.sheets.has(sheet) || !within(amount, 1, MOST_AMOUNT)) {
            return NUMBER;
        }
        return Math.max(0, amount - ledger.openAt(sheet).leftEnd(false));
    }

    public int cancel(int booking) {
        Bookings bookings = house.bookings;
        if (!bookings.has(booking)) {
            return NUMBER;
        }
        if (bookings.cancelled[booking]) {
            return TWICE;
        }
        bookings.cancelled[booking] = true;
        return changed(1);
    }

    public int booking(int booking, int what) {
        Bookings bookings = house.bookings;
        if (!bookings.has(booking)) {
            return NUMBER;
        }
        switch (what) {
            case 0: return bookings.isLoan(booking) ? 1 : 0;
            case 1: return bookings.sheet[booking];
            case 2: return bookings.room[booking];
            case 3: return bookings.year[booking];
            case 4: return house.spendEnd(booking, false);
            case 5: return house.spendEnd(booking, true);
            case 6: return bookings.cancelled[booking] ? 1 : 0;
            default: return NUMBER;
        }
    }

    public int thread(int sheet, int year, int step) {
        if (!house.sheets.has(sheet) || !isYear(year) || !within(step, 0, LAST_STEP)) {
            return NUMBER;
        }
        if (house.threads.count >= MOST_THREADS) {
            return FULL;
        }
        return changed(house.threads.add(sheet, year, step));
    }

    public int cut() {
        if (house.threads.count <= 0) {
            return NONE;
        }
        house.threads.count--;
        return changed(house.threads.count);
    }

    public int pastOf(int sheet, boolean greatest) {
        if (!house.sheets.has(sheet)) {
            return NUMBER;
        }
        return ledger.openAt(sheet).pastEnd(greatest);
    }

    public int spent(int sheet, int year, boolean greatest) {
        if (!house.sheets.has(sheet) || !isYear(year)) {
            return NUMBER;
        }
        return ledger.openAt(sheet).spentEnd(year, greatest);
    }

    public int left(int sheet, boolean greatest) {
        if (!house.sheets.has(sheet)) {
            return NOTHING;
        }
        return ledger.openAt(sheet).leftEnd(greatest);
    }

    public int step(int sheet, int year, boolean greatest) {
        if (!house.sheets.has(sheet) || !isYear(year)) {
            return NUMBER;
        }
        return stepOfAmount(ledger.openAt(sheet).spentEnd(year, greatest));
    }

    // ---- walls

    public int wall(int room, int year, int theme) {
        if (!house.rooms.has(room) || !isYear(year) || !within(theme, 0, LAST_THEME)) {
            return NUMBER;
        }
        if (house.walls.count >= MOST_WALLS) {
            return FULL;
        }
        return changed(house.walls.add(room, year, theme));
    }

    public int strip() {
        if (house.walls.count <= 0) {
            return NONE;
        }
        house.walls.count--;
        return changed(house.walls.count);
    }

    public int hung(int wall) {
        if (!house.walls.has(wall)) {
            return NUMBER;
        }
        hanging.find();
        return hanging.best[wall];
    }

    public int worth() {
        hanging.find();
        return hanging.bestWorth;
    }

    public int spares(int sheet) {
        if (!house.sheets.has(sheet)) {
            return NOTHING;
        }
        hanging.find();
        return ledger.openAt(sheet).leftEnd(false) - hanging.lightOn(sheet);
    }

    public int hang() {
        hanging.find();
        int many = hanging.countHung();
        if (house.bookings.count + many > MOST_BOOKINGS) {
            return FULL;
        }
        Walls walls = house.walls;
        for (int wall = 0; wall < walls.count; wall++) {
            if (hanging.best[wall] != NONE) {
                house.bookings.addShow(hanging.best[wall], walls.room[wall], walls.year[wall]);
            }
        }
        walls.count = 0;
        return changed(many);
    }

    public int many(int what) {
        switch (what) {
            case 0: return house.rooms.count;
            case 1: return house.sheets.count;
            case 2: return house.bookings.count;
            case 3: return house.bookings.countCancelled();
            case 4: return house.threads.count;
            case 5: return house.walls.count;
            case 6: return ledger.countQuarrels();
            case 7: return ledger.countOverspent();
            case 8: return house.rooms.countReadings();
            default: return NUMBER;
        }
    }

    // ---- kept

    public int keep() {
        if (kept == null) {
            kept = new House();
        }
        kept.copyFrom(house);
        return 1;
    }

    public int back() {
        if (kept == null) {
            return NONE;
        }
        house.copyFrom(kept);
        return changed(1);
    }

    // ---- helpers

    /** Every call that changes the house answers through here, so that no HANG found before outlives the change. */
    private int changed(int answer) {
        hanging.forget();
        return answer;
    }

    private static boolean within(int number, int least, int greatest) {
        return number >= least && number <= greatest;
    }

    private static boolean isYear(int year) {
        return within(year, 0, LAST_YEAR);
    }

    private static int stepOfAmount(int amount) {
        int step = LAST_STEP;
        while (step > 0 && amount < STEPS[step]) {
            step--;
        }
        return step;
    }

    private static void copyRow(int[] from, int[] to) {
        System.arraycopy(from, 0, to, 0, Math.min(from.length, to.length));
    }

    /** The ROOMS, with their READINGS (MISSING where there is none). */
    private static final class Rooms {
        int count = 0;
        final int[] worst = new int[MOST_ROOMS];
        final int[] readings = new int[MOST_ROOMS * YEARS];

        boolean has(int number) {
            return number >= 0 && number < count;
        }

        int add(int worstOfIt) {
            if (count >= MOST_ROOMS) {
                return FULL;
            }
            worst[count] = worstOfIt;
            // A place may have been used by a ROOM that back() took away.
            for (int year = 0; year < YEARS; year++) {
                read(count, year, MISSING);
            }
            count++;
            return count - 1;
        }

        void read(int number, int year, int v) {
            readings[number * YEARS + year] = v;
        }

        int lightEnd(int number, int year, boolean greatest) {
            int read = readings[number * YEARS + year];
            if (read != MISSING) {
                return read;
            }
            return greatest ? worst[number] : 0;
        }

        int countReadings() {
            int readingsThere = 0;
            for (int place = 0; place < count * YEARS; place++) {
                if (readings[place] != MISSING) {
                    readingsThere++;
                }
            }
            return readingsThere;
        }

        void copyFrom(Rooms other) {
            count = other.count;
            copyRow(other.worst, worst);
            copyRow(other.readings, readings);
        }
    }

    /** The SHEETS, each with its told PAST and its SISTER (NONE where it has none). */
    private static final class Sheets {
        int count = 0;
        final int[] limit = new int[MOST_SHEETS];
        final int[] themes = new int[MOST_SHEETS];
        final int[] value = new int[MOST_SHEETS];
        final int[] rest = new int[MOST_SHEETS];
        final int[] sister = new int[MOST_SHEETS];
        final int[] toldLeast = new int[MOST_SHEETS];
        final int[] toldGreatest = new int[MOST_SHEETS];

        boolean has(int number) {
            return number >= 0 && number < count;
        }

        int add(int limitOfIt, int themesOfIt, int valueOfIt, int restOfIt) {
            if (count >= MOST_SHEETS) {
                return FULL;
            }
            limit[count] = limitOfIt;
            themes[count] = themesOfIt;
            value[count] = valueOfIt;
            rest[count] = restOfIt;
            sister[count] = NONE;
            toldLeast[count] = 0;
            toldGreatest[count] = 0;
            count++;
            return count - 1;
        }

        boolean hasTheme(int number, int theme) {
            return ((themes[number] >> theme) & 1) == 1;
        }

        void copyFrom(Sheets other) {
            count = other.count;
            copyRow(other.limit, limit);
            copyRow(other.themes, themes);
            copyRow(other.value, value);
            copyRow(other.rest, rest);
            copyRow(other.sister, sister);
            copyRow(other.toldLeast, toldLeast);
            copyRow(other.toldGreatest, toldGreatest);
        }
    }

    /** The BOOKINGS: a LOAN is one whose room is NONE; amount is 0 for a SHOW. */
    private static final class Bookings {
        int count = 0;
        final int[] sheet = new int[MOST_BOOKINGS];
        final int[] room = new int[MOST_BOOKINGS];
        final int[] year = new int[MOST_BOOKINGS];
        final int[] amount = new int[MOST_BOOKINGS];
        final boolean[] cancelled = new boolean[MOST_BOOKINGS];

        boolean has(int number) {
            return number >= 0 && number < count;
        }

        int addShow(int sheetOfIt, int roomOfIt, int yearOfIt) {
            return add(sheetOfIt, roomOfIt, yearOfIt, 0);
        }

        int addLoan(int sheetOfIt, int yearOfIt, int amountOfIt) {
            return add(sheetOfIt, NONE, yearOfIt, amountOfIt);
        }

        private int add(int sheetOfIt, int roomOfIt, int yearOfIt, int amountOfIt) {
            if (count >= MOST_BOOKINGS) {
                return FULL;
            }
            sheet[count] = sheetOfIt;
            room[count] = roomOfIt;
            year[count] = yearOfIt;
            amount[count] = amountOfIt;
            cancelled[count] = false;
            count++;
            return count - 1;
        }

        boolean isLoan(int number) {
            return room[number] == NONE;
        }

        boolean standsFor(int number, int sheetOfIt) {
            return sheet[number] == sheetOfIt && !cancelled[number];
        }

        /** Whether the SHEET has a SHOW (not CANCELLED) at most so many YEARS away from the one given. */
        boolean shownWithin(int sheetOfIt, int aroundYear, int away) {
            for (int number = 0; number < count; number++) {
                if (standsFor(number, sheetOfIt) && !isLoan(number) && Math.abs(year[number] - aroundYear) <= away) {
                    return true;
                }
            }
            return false;
        }

        int countOf(int sheetOfIt) {
            int standing = 0;
            for (int number = 0; number < count; number++) {
                if (standsFor(number, sheetOfIt)) {
                    standing++;
                }
            }
            return standing;
        }

        int countCancelled() {
            int gone = 0;
            for (int number = 0; number < count; number++) {
                if (cancelled[number]) {
                    gone++;
                }
            }
            return gone;
        }

        void copyFrom(Bookings other) {
            count = other.count;
            copyRow(other.sheet, sheet);
            copyRow(other.room, room);
            copyRow(other.year, year);
            copyRow(other.amount, amount);
            for (int number = 0; number < MOST_BOOKINGS; number++) {
                cancelled[number] = other.cancelled[number];
            }
        }
    }

    /** The THREADS. */
    private static final class Threads {
        int count = 0;
        final int[] sheet = new int[MOST_THREADS];
        final int[] year = new int[MOST_THREADS];
        final int[] step = new int[MOST_THREADS];

        int add(int sheetOfIt, int yearOfIt, int stepOfIt) {
            if (count >= MOST_THREADS) {
                return FULL;
            }
            sheet[count] = sheetOfIt;
            year[count] = yearOfIt;
            step[count] = stepOfIt;
            count++;
            return count - 1;
        }

        int countOf(int sheetOfIt) {
            int told = 0;
            for (int number = 0; number < count; number++) {
                if (sheet[number] == sheetOfIt) {
                    told++;
                }
            }
            return told;
        }

        void copyFrom(Threads other) {
            count = other.count;
            copyRow(other.sheet, sheet);
            copyRow(other.year, year);
            copyRow(other.step, step);
        }
    }

    /** The WALLS. */
    private static final class Walls {
        int count = 0;
        final int[] room = new int[MOST_WALLS];
        final int[] year = new int[MOST_WALLS];
        final int[] theme = new int[MOST_WALLS];

        boolean has(int number) {
            return number >= 0 && number < count;
        }

        int add(int roomOfIt, int yearOfIt, int themeOfIt) {
            if (count >= MOST_WALLS) {
                return FULL;
            }
            room[count] = roomOfIt;
            year[count] = yearOfIt;
            theme[count] = themeOfIt;
            count++;
            return count - 1;
        }

        void copyFrom(Walls other) {
            count = other.count;
            copyRow(other.room, room);
            copyRow(other.year, year);
            copyRow(other.theme, theme);
        }
    }

    /** All that can be kept. */
    private static final class House {
        final Rooms rooms = new Rooms();
        final Sheets sheets = new Sheets();
        final Bookings bookings = new Bookings();
        final Threads threads = new Threads();
        final Walls walls = new Walls();

        int spendEnd(int booking, boolean greatest) {
            if (bookings.isLoan(booking)) {
                return bookings.amount[booking];
            }
            return rooms.lightEnd(bookings.room[booking], bookings.year[booking], greatest);
        }

        void copyFrom(House other) {
            rooms.copyFrom(other.rooms);
            sheets.copyFrom(other.sheets);
            bookings.copyFrom(other.bookings);
            threads.copyFrom(other.threads);
            walls.copyFrom(other.walls);
        }
    }

    /**
     * The spans of one SHEET of a house, reckoned anew each time it is opened; an end of a span is its least or its
     * greatest.
     */
    private static final class Ledger {
        final House house;
        int sheet = 0;
        boolean quarrels = false;
        int pastLeast = 0;
        int pastGreatest = 0;
        /** By YEAR: what the BOOKINGS of that YEAR and earlier ones SPEND together. */
        final int[] spendsLeast = new int[YEARS];
        final int[] spendsGreatest = new int[YEARS];

        Ledger(House ofHouse) {
            house = ofHouse;
        }

        Ledger openAt(int ofSheet) {
            sheet = ofSheet;
            sumSpends();
            narrowPast();
            return this;
        }

        private void sumSpends() {
            for (int year = 0; year < YEARS; year++) {
                spendsLeast[year] = 0;
                spendsGreatest[year] = 0;
            }
            Bookings bookings = house.bookings;
            for (int booking = 0; booking < bookings.count; booking++) {
                if (bookings.standsFor(booking, sheet)) {
                    spendsLeast[bookings.year[booking]] += house.spendEnd(booking, false);
                    spendsGreatest[bookings.year[booking]] += house.spendEnd(booking, true);
                }
            }
            for (int year = 1; year < YEARS; year++) {
                spendsLeast[year] += spendsLeast[year - 1];
                spendsGreatest[year] += spendsGreatest[year - 1];
            }
        }

        private void narrowPast() {
            int least = house.sheets.toldLeast[sheet];
            int greatest = house.sheets.toldGreatest[sheet];
            Threads threads = house.threads;
            for (int thread = 0; thread < threads.count; thread++) {
                if (threads.sheet[thread] == sheet) {
                    int step = threads.step[thread];
                    int year = threads.year[thread];
                    least = Math.max(least, STEPS[step] - spendsGreatest[year]);
                    greatest = Math.min(greatest, STEPS[step + 1] - 1 - spendsLeast[year]);
                }
            }
            quarrels = least > greatest;
            pastLeast = quarrels ? house.sheets.toldLeast[sheet] : least;
            pastGreatest = quarrels ? house.sheets.toldGreatest[sheet] : greatest;
        }

        int pastEnd(boolean greatest) {
            return greatest ? pastGreatest : pastLeast;
        }

        int spentEnd(int year, boolean greatest) {
            return greatest ? pastGreatest + spendsGreatest[year] : pastLeast + spendsLeast[year];
        }

        /** The more is SPENT the less is LEFT: the least of one goes with the greatest of the other. */
        int leftEnd(boolean greatest) {
            return house.sheets.limit[sheet] - spentEnd(LAST_YEAR, !greatest);
        }

        int countQuarrels() {
            int quarrelling = 0;
            for (int number = 0; number < house.sheets.count; number++) {
                if (openAt(number).quarrels) {
                    quarrelling++;
                }
            }
            return quarrelling;
        }

        int countOverspent() {
            int overspent = 0;
            for (int number = 0; number < house.sheets.count; number++) {
                if (openAt(number).leftEnd(false) < 0) {
                    overspent++;
                }
            }
            return overspent;
        }
    }

    /** The search for THE HANG of a house; what it found stays known until the house changes. */
    private static final class Hanging {
        final House house;
        final Ledger ledger;
        boolean known = false;
        /** By WALL: the SHEET that THE HANG gives it, or NONE. */
        final int[] best = new int[MOST_WALLS];
        int bestWorth = 0;

        /** By WALL: the SHEET that the HANG being tried gives it, or NONE. */
        final int[] trial = new int[MOST_WALLS];
        /** By WALL: a bit for each SHEET that may be given to it as far as no other WALL has a say. */
        final int[] may = new int[MOST_WALLS];
        /** By WALL: its greatest LIGHT. */
        final int[] light = new int[MOST_WALLS];
        /** By WALL: a WORTH that this WALL and the later ones together can't go above. */
        final int[] bound = new int[MOST_WALLS + 1];
        /** By SHEET: the least that is LEFT, less the LIGHT of its WALLS in the trial. */
        final int[] spare = new int[MOST_SHEETS];

        Hanging(House ofHouse, Ledger ofLedger) {
            house = ofHouse;
            ledger = ofLedger;
        }

        void forget() {
            known = false;
        }

        /**
         * Solves the last WALL alone, then the last two, and so on to all of them: any part of a HANG is a HANG of
         * that part, so what the later WALLS are worth alone bounds what they add behind earlier ones.
         */
        void find() {
            if (known) {
                return;
            }
            prepare();
            int walls = house.walls.count;
            bestWorth = 0;
            bound[walls] = 0;
            for (int from = walls - 1; from >= 0; from--) {
                bestWorth = -1;
                bound[from] = bound[from + 1] + MOST_VALUE;
                place(this, from, 0);
                bound[from] = bestWorth;
            }
            known = true;
        }

        private void prepare() {
            for (int sheet = 0; sheet < house.sheets.count; sheet++) {
                spare[sheet] = ledger.openAt(sheet).leftEnd(false);
            }
            for (int wall = 0; wall < house.walls.count; wall++) {
                trial[wall] = NONE;
                light[wall] = house.rooms.lightEnd(house.walls.room[wall], house.walls.year[wall], true);
                may[wall] = sheetsFor(wall);
            }
        }

        private int sheetsFor(int wall) {
            int bits = 0;
            for (int sheet = 0; sheet < house.sheets.count; sheet++) {
                boolean suits = house.sheets.hasTheme(sheet, house.walls.theme[wall]);
                if (suits && !shownTooNear(sheet, house.walls.year[wall])) {
                    bits |= 1 << sheet;
                }
            }
            return bits;
        }

        private boolean shownTooNear(int sheet, int year) {
            if (house.bookings.shownWithin(sheet, year, house.sheets.rest[sheet])) {
                return true;
            }
            int sister = house.sheets.sister[sheet];
            return sister != NONE && house.bookings.shownWithin(sister, year, 0);
        }

        /**
         * Tries every HANG of this WALL and the later ones, those first that stand first among equals: so only one
         * that is worth more than the best so far takes its place. The depth is at most MOST_WALLS.
         */
        private static void place(Hanging h, int wall, int worthSoFar) {
            if (wall >= h.house.walls.count || wall >= MOST_WALLS) {
                h.takeIfBetter(worthSoFar);
                return;
            }
            if (worthSoFar + h.bound[wall] <= h.bestWorth) {
                return;
            }
            for (int sheet = 0; sheet < h.house.sheets.count; sheet++) {
                if (h.fits(wall, sheet)) {
                    h.trial[wall] = sheet;
                    h.spare[sheet] -= h.light[wall];
                    place(h, wall + 1, worthSoFar + h.house.sheets.value[sheet]);
                    h.spare[sheet] += h.light[wall];
                    h.trial[wall] = NONE;
                }
            }
            place(h, wall + 1, worthSoFar);
        }

        private void takeIfBetter(int worthOfTrial) {
            if (worthOfTrial > bestWorth) {
                bestWorth = worthOfTrial;
                copyRow(trial, best);
            }
        }

        private boolean fits(int wall, int sheet) {
            if (((may[wall] >> sheet) & 1) == 0 || light[wall] > spare[sheet]) {
                return false;
            }
            int year = house.walls.year[wall];
            for (int earlier = 0; earlier < wall; earlier++) {
                int away = Math.abs(house.walls.year[earlier] - year);
                if (trial[earlier] == sheet && away <= house.sheets.rest[sheet]) {
                    return false;
                }
                if (trial[earlier] != NONE && trial[earlier] == house.sheets.sister[sheet] && away == 0) {
                    return false;
                }
            }
            return true;
        }

        int countHung() {
            int hungWalls = 0;
            for (int wall = 0; wall < house.walls.count; wall++) {
                if (best[wall] != NONE) {
                    hungWalls++;
                }
            }
            return hungWalls;
        }

        /** The greatest LIGHT of the WALLS that THE HANG gives the SHEET, together. */
        int lightOn(int sheet) {
            int together = 0;
            for (int wall = 0; wall < house.walls.count; wall++) {
                if (best[wall] == sheet) {
                    together += light[wall];
                }
            }
            return together;
        }
    }
}
