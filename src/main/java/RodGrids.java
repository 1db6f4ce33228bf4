/** A bench for gridiron pendulums; ../shared/DOC.md says what each call answers, changes and throws. */
public final class RodGrids {
    public static final int NONE = -2000000000;

    private static final int MOST_METALS = 6;
    private static final int MOST_STRETCH = 500;
    private static final int MOST_RODS = 9;
    private static final int MOST_LENGTH = 1000000;
    private static final int ROD_VALUES = 5;

    private static final int SHELVES = 5;
    private static final int FIRST_WARMTH = 200;
    private static final int LEAST_WARMTH = -300;
    private static final int MOST_WARMTH = 600;
    private static final int WARMTH_STEP = 10;

    private static final int MOST_NUT = 500;
    private static final int MOST_TURN = 1000;
    private static final int NUT_LENGTH = 10;
    private static final int FULL_DRIVE = 192;
    private static final int MOST_HOURS = 500;
    private static final int LAST_TIME = 100000;
    private static final int DAY_HOURS = 24;
    private static final long MOST_RATE = 1000000000L;
    private static final long LEAST_ERROR = -1999999999L;
    private static final long MOST_ERROR = 2000000000L;

    private static final int NOMINAL = 0;
    private static final int LAG = 1;
    private static final int REST_ARC = 2;
    private static final int SETTINGS = 3;
    private static final int[] LEAST_SETTINGS = {100000, 1, 0};
    private static final int[] MOST_SETTINGS = {2000000, 24, 100};

    private static final int WHOLE_VALUES = 18;
    private static final int MOST_DAYS = 10;
    private static final int DAY_VALUES = 4;
    private static final int MOST_SAVED = 4;

    private static final int MOST_BYTES = 150;
    private static final int MOST_BYTE = 127;
    private static final int MOST_DIGITS = 7;
    private static final int NO_NUMBER = -1;
    private static final int NO_FAULT = -1;
    private static final int FAULT_BASE = -10;
    private static final int SPACE = 32;
    private static final int SEMICOLON = 59;
    private static final int TEXT_END = -1;

    // What keeps a call from being done. Checks answer one of these instead of throwing,
    // so that a run of commands can stop at a call that would throw without a catch.
    private static final int FINE = 0;
    private static final int NO_SUCH_NUMBER = 1;
    private static final int BAD_ARGUMENT = 2;
    private static final int BAD_STATE = 3;

    private static final Word[] WORDS = Word.values();

    private final State state = new State();
    private final SavedStates saved = new SavedStates();
    private final CommandText text = new CommandText();

    public RodGrids() {
    }

    // ---- the grid

    public int addMetal(int stretch) throws IllegalArgumentException, IllegalStateException {
        refuse(state.grid.checkNewMetal(stretch));
        saved.push(state);
        return state.grid.appendMetal(stretch);
    }

    public int setStretch(int metal, int stretch) throws IndexOutOfBoundsException, IllegalArgumentException {
        refuse(state.grid.checkStretch(metal, stretch));
        saved.push(state);
        return state.grid.changeStretch(metal, stretch);
    }

    public int addRod(int metal, int direction, int length)
            throws IndexOutOfBoundsException, IllegalArgumentException, IllegalStateException {
        refuse(state.grid.checkNewRod(metal, direction, length));
        saved.push(state);
        return state.grid.appendRod(metal, direction, length);
    }

    public int removeRod(int rod) throws IndexOutOfBoundsException {
        refuse(state.grid.checkRod(rod));
        saved.push(state);
        return state.grid.dropRod(rod);
    }

    public int setLength(int rod, int length) throws IndexOutOfBoundsException, IllegalArgumentException {
        refuse(state.grid.checkLength(rod, length));
        saved.push(state);
        return state.grid.changeLength(rod, length);
    }

    // ---- the bench

    public int setShelf(int shelf, int warmth) throws IndexOutOfBoundsException, IllegalArgumentException {
        refuse(state.bench.checkShelfWarmth(shelf, warmth));
        saved.push(state);
        return state.bench.changeShelfWarmth(shelf, warmth);
    }

    public int hang(int shelf) throws IndexOutOfBoundsException {
        refuse(state.bench.checkShelf(shelf));
        saved.push(state);
        return state.bench.changeShelf(shelf);
    }

    public int turnNut(int by) throws IllegalArgumentException, IllegalStateException {
        refuse(state.bench.checkTurn(by));
        saved.push(state);
        return state.bench.changeNut(by);
    }

    public int wind() {
        saved.push(state);
        return state.bench.fillDrive();
    }

    public int set(int what, int value) throws IllegalArgumentException {
        refuse(state.bench.checkSetting(what, value));
        saved.push(state);
        return state.bench.changeSetting(what, value);
    }

    public int pass(int hours) throws IllegalArgumentException, IllegalStateException {
        refuse(state.bench.checkHours(hours));
        saved.push(state);
        return state.passHours(hours);
    }

    // ---- values

    public int rod(int rod, int what) throws IndexOutOfBoundsException, IllegalArgumentException {
        refuse(state.grid.checkRod(rod));
        refuse(within(what, 0, ROD_VALUES - 1) ? FINE : BAD_ARGUMENT);
        return state.grid.rodValue(rod, what, state.bench.warmth);
    }

    public int stretch(int metal) throws IndexOutOfBoundsException {
        refuse(state.grid.checkMetal(metal));
        return state.grid.stretchOf(metal);
    }

    public int shelf(int shelf) throws IndexOutOfBoundsException {
        refuse(state.bench.checkShelf(shelf));
        return state.bench.shelfWarmth(shelf);
    }

    public int whole(int what) throws IllegalArgumentException {
        refuse(within(what, 0, WHOLE_VALUES - 1) ? FINE : BAD_ARGUMENT);
        return what == WHOLE_VALUES - 1 ? text.length : state.wholeValue(what);
    }

    public long balance() {
        return state.grid.balanceOfRods();
    }

    public long rates() {
        return state.bench.rateSum;
    }

    public int balanceBits() {
        long allLengths = state.grid.sumOfLengths();
        return allLengths == 0 ? 0 : bitsOf((float) state.grid.balanceOfRods() / (float) allLengths);
    }

    public long day(int day, int what) throws IllegalArgumentException {
        refuse(day >= 0 && within(what, 0, DAY_VALUES - 1) ? FINE : BAD_ARGUMENT);
        return state.log.dayValue(day, what);
    }

    public double meanRate() {
        int went = state.bench.went;
        return went == 0 ? 0.0 : (double) state.bench.rateSum / (double) went;
    }

    // ---- what if, which changes nothing

    public int rateAt(int warmth) throws IllegalArgumentException {
        refuse(isWarmth(warmth) ? FINE : BAD_ARGUMENT);
        return state.rateFor(warmth, state.bench.drive);
    }

    public int matchLength(int rod) throws IndexOutOfBoundsException {
        refuse(state.grid.checkRod(rod));
        return state.grid.nearestMatch(rod);
    }

    public int bestNut() {
        return state.nearestNut();
    }

    public int rangeOfRates(int low, int high) throws IllegalArgumentException {
        refuse(isWarmth(low) && within(high, low, MOST_WARMTH) ? FINE : BAD_ARGUMENT);
        return state.spreadOfRates(low, high);
    }

    public long changeWithin(int hours) throws IllegalArgumentException {
        refuse(within(hours, 0, MOST_HOURS) ? FINE : BAD_ARGUMENT);
        return state.changeOfRates(hours);
    }

    // ---- command text, undo and checksum

    public int type(int value) throws IllegalArgumentException, IllegalStateException {
        refuse(text.checkByte(value));
        return text.append(value);
    }

    public int clearCommands() {
        return text.empty();
    }

    public int runCommands() {
        int fault = text.findFault();
        if (fault != NO_FAULT) {
            return FAULT_BASE - fault;
        }
        saved.push(state);
        text.rewind();
        int done = 0;
        while (done < MOST_BYTES && text.readCommand()
                && troubleWith(text.word, text.first, text.second) == FINE) {
            carryOut(text.word, text.first, text.second);
            done++;
        }
        return done;
    }

    public int undo() throws IllegalStateException {
        refuse(saved.size > 0 ? FINE : BAD_STATE);
        return saved.popInto(state);
    }

    public long digest() {
        long hash = mix(43239L, saved.size);
        for (int what = 0; what < WHOLE_VALUES; what++) {
            hash = mix(hash, whole(what));
        }
        hash = mix(mix(mix(hash, balance()), rates()), balanceBits());
        for (int metal = 0; metal < state.grid.metals; metal++) {
            hash = mix(hash, stretch(metal));
        }
        for (int shelf = 0; shelf < SHELVES; shelf++) {
            hash = mix(hash, shelf(shelf));
        }
        for (int rod = 0; rod < state.grid.rods; rod++) {
            for (int what = 0; what < ROD_VALUES; what++) {
                hash = mix(hash, rod(rod, what));
            }
        }
        for (int day = 0; day < state.log.days; day++) {
            for (int what = 0; what < DAY_VALUES; what++) {
                hash = mix(hash, day(day, what));
            }
        }
        return mix(hash, bestNut());
    }

    private static long mix(long hash, long value) {
        return 31L * hash + value;
    }

    private static void refuse(int trouble) {
        if (trouble == NO_SUCH_NUMBER) {
            throw new IndexOutOfBoundsException("there is nothing with this number");
        }
        if (trouble == BAD_ARGUMENT) {
            throw new IllegalArgumentException("an argument is out of its range");
        }
        if (trouble == BAD_STATE) {
            throw new IllegalStateException("the bench does not allow this now");
        }
    }

    private int troubleWith(Word word, int first, int second) {
        if (word == null) {
            return BAD_ARGUMENT;
        }
        switch (word) {
            case METAL: return state.grid.checkNewMetal(first);
            case DOWN: return state.grid.checkNewRod(first, 1, second);
            case UP: return state.grid.checkNewRod(first, -1, second);
            case CUT: return state.grid.checkLength(first, second);
            case WARM: return state.bench.checkShelfWarmth(first, second);
            case COLD: return state.bench.checkShelfWarmth(first, -second);
            case HANG: return state.bench.checkShelf(first);
            case NUT: return state.bench.checkTurn(first);
            case BACK: return state.bench.checkTurn(-first);
            case SET: return state.bench.checkSetting(first, second);
            case PASS: return state.bench.checkHours(first);
            default: return FINE;
        }
    }

    private void carryOut(Word word, int first, int second) {
        if (word == null) {
            return;
        }
        switch (word) {
            case METAL: state.grid.appendMetal(first); break;
            case DOWN: state.grid.appendRod(first, 1, second); break;
            case UP: state.grid.appendRod(first, -1, second); break;
            case CUT: state.grid.changeLength(first, second); break;
            case WARM: state.bench.changeShelfWarmth(first, second); break;
            case COLD: state.bench.changeShelfWarmth(first, -second); break;
            case HANG: state.bench.changeShelf(first); break;
            case NUT: state.bench.changeNut(first); break;
            case BACK: state.bench.changeNut(-first); break;
            case WIND: state.bench.fillDrive(); break;
            case SET: state.bench.changeSetting(first, second); break;
            case PASS: state.passHours(first); break;
            default: break;
        }
    }

    private static boolean within(int value, int least, int most) {
        return value >= least && value <= most;
    }

    private static boolean isWarmth(int value) {
        return within(value, LEAST_WARMTH, MOST_WARMTH);
    }

    private static long clamp(long value, long least, long most) {
        return Math.max(least, Math.min(most, value));
    }

    private static long floorOf(long value, long divisor) {
        return divisor == 0 ? 0 : Math.floorDiv(value, divisor);
    }

    // LANGUAGE.md leaves no Float.floatToIntBits. Halving and doubling are exact here: a balance
    // for a length is 0 or lies far inside the normal floats.
    private static int bitsOf(float value) {
        if (value == 0.0f) {
            return 0;
        }
        int sign = value < 0.0f ? 1 << 31 : 0;
        float rest = value < 0.0f ? -value : value;
        int exponent = 127;
        for (; exponent < 254 && rest >= 2.0f; exponent++) {
            rest = rest / 2.0f;
        }
        for (; exponent > 1 && rest < 1.0f; exponent--) {
            rest = rest * 2.0f;
        }
        int fraction = (int) (rest * 8388608.0f) - 8388608;
        return sign | (exponent << 23) | fraction;
    }

    private enum Word {
        METAL("metal", 1), DOWN("down", 2), UP("up", 2), CUT("cut", 2), WARM("warm", 2), COLD("cold", 2),
        HANG("hang", 1), NUT("nut", 1), BACK("back", 1), WIND("wind", 0), SET("set", 2), PASS("pass", 1);

        final String letters;
        final int numbers;

        Word(String letters, int numbers) {
            this.letters = letters;
            this.numbers = numbers;
        }
    }

    private static final class Grid {
        int metals = 2;
        final int[] stretches = new int[MOST_METALS];
        int rods;
        final int[] rodMetals = new int[MOST_RODS];
        final int[] directions = new int[MOST_RODS];
        final int[] lengths = new int[MOST_RODS];

        Grid() {
            stretches[0] = 115;
            stretches[1] = 190;
        }

        void copyFrom(Grid other) {
            metals = other.metals;
            System.arraycopy(other.stretches, 0, stretches, 0, MOST_METALS);
            rods = other.rods;
            System.arraycopy(other.rodMetals, 0, rodMetals, 0, MOST_RODS);
            System.arraycopy(other.directions, 0, directions, 0, MOST_RODS);
            System.arraycopy(other.lengths, 0, lengths, 0, MOST_RODS);
        }

        boolean hasMetal(int metal) {
            return within(metal, 0, metals - 1);
        }

        boolean hasRod(int rod) {
            return within(rod, 0, rods - 1);
        }

        int checkMetal(int metal) {
            return hasMetal(metal) ? FINE : NO_SUCH_NUMBER;
        }

        int checkRod(int rod) {
            return hasRod(rod) ? FINE : NO_SUCH_NUMBER;
        }

        int checkNewMetal(int stretch) {
            if (!within(stretch, 0, MOST_STRETCH)) {
                return BAD_ARGUMENT;
            }
            return metals < MOST_METALS ? FINE : BAD_STATE;
        }

        int checkStretch(int metal, int stretch) {
            if (!hasMetal(metal)) {
                return NO_SUCH_NUMBER;
            }
            return within(stretch, 0, MOST_STRETCH) ? FINE : BAD_ARGUMENT;
        }

        int checkNewRod(int metal, int direction, int length) {
            if (!hasMetal(metal)) {
                return NO_SUCH_NUMBER;
            }
            if (direction != 1 && direction != -1 || !within(length, 1, MOST_LENGTH)) {
                return BAD_ARGUMENT;
            }
            return rods < MOST_RODS ? FINE : BAD_STATE;
        }

        int checkLength(int rod, int length) {
            if (!hasRod(rod)) {
                return NO_SUCH_NUMBER;
            }
            return within(length, 1, MOST_LENGTH) ? FINE : BAD_ARGUMENT;
        }

        // The methods that change something are called behind the check of their arguments alone.

        int appendMetal(int stretch) {
            stretches[metals] = stretch;
            metals++;
            return metals - 1;
        }

        int changeStretch(int metal, int stretch) {
            int previous = stretches[metal];
            stretches[metal] = stretch;
            return previous;
        }

        int appendRod(int metal, int direction, int length) {
            rodMetals[rods] = metal;
            directions[rods] = direction;
            lengths[rods] = length;
            rods++;
            return rods - 1;
        }

        int dropRod(int rod) {
            for (int behind = rod + 1; behind < rods; behind++) {
                rodMetals[behind - 1] = rodMetals[behind];
                directions[behind - 1] = directions[behind];
                lengths[behind - 1] = lengths[behind];
            }
            rods--;
            return rods;
        }

        int changeLength(int rod, int length) {
            int previous = lengths[rod];
            lengths[rod] = length;
            return previous;
        }

        int stretchOf(int metal) {
            return metal >= 0 && metal < metals ? stretches[metal] : 0;
        }

        int rodValue(int rod, int what, int warmth) {
            switch (what) {
                case 0: return rodMetals[rod];
                case 1: return directions[rod];
                case 2: return lengths[rod];
                case 3: return (int) stretching(rod, warmth);
                default: return (int) (lengths[rod] + stretching(rod, warmth));
            }
        }

        long stretching(int rod, int warmth) {
            long product = (long) lengths[rod] * stretchOf(rodMetals[rod]) * (warmth - FIRST_WARMTH);
            return Math.floorDiv(product, 100000000L);
        }

        long lengthOfRods(int warmth) {
            long sum = 0;
            for (int rod = 0; rod < rods; rod++) {
                sum += directions[rod] * (lengths[rod] + stretching(rod, warmth));
            }
            return sum;
        }

        long sumOfLengths() {
            long sum = 0;
            for (int rod = 0; rod < rods; rod++) {
                sum += lengths[rod];
            }
            return sum;
        }

        long balanceOfRod(int rod) {
            return (long) directions[rod] * lengths[rod] * stretchOf(rodMetals[rod]);
        }

        long balanceOfRods() {
            long sum = 0;
            for (int rod = 0; rod < rods; rod++) {
                sum += balanceOfRod(rod);
            }
            return sum;
        }

        int nearestMatch(int rod) {
            long stretch = stretchOf(rodMetals[rod]);
            if (stretch == 0) {
                return 1;
            }
            // length * stretch has to come nearest to what the other rods leave open.
            long open = -directions[rod] * (balanceOfRods() - balanceOfRod(rod));
            long exact = floorOf(open, stretch);
            long shorter = clamp(exact, 1, MOST_LENGTH);
            long longer = clamp(exact + 1, 1, MOST_LENGTH);
            boolean longerIsNearer = Math.abs(longer * stretch - open) < Math.abs(shorter * stretch - open);
            return (int) (longerIsNearer ? longer : shorter);
        }
    }

    private static final class Bench {
        final int[] shelfWarmths = new int[SHELVES];
        final int[] settings = new int[SETTINGS];
        int shelfNumber;
        int warmth = FIRST_WARMTH;
        int nut;
        int drive = FULL_DRIVE;
        int time;
        int went;
        int stood;
        long rateSum;
        // What the sum and the hours were when the latest day was put into the log.
        long rateSumBefore;
        int wentBefore;

        Bench() {
            for (int shelf = 0; shelf < SHELVES; shelf++) {
                shelfWarmths[shelf] = FIRST_WARMTH;
            }
            settings[NOMINAL] = 994000;
            settings[LAG] = 4;
            settings[REST_ARC] = 20;
        }

        void copyFrom(Bench other) {
            System.arraycopy(other.shelfWarmths, 0, shelfWarmths, 0, SHELVES);
            System.arraycopy(other.settings, 0, settings, 0, SETTINGS);
            shelfNumber = other.shelfNumber;
            warmth = other.warmth;
            nut = other.nut;
            drive = other.drive;
            time = other.time;
            went = other.went;
            stood = other.stood;
            rateSum = other.rateSum;
            rateSumBefore = other.rateSumBefore;
            wentBefore = other.wentBefore;
        }

        int checkShelf(int shelf) {
            return within(shelf, 0, SHELVES - 1) ? FINE : NO_SUCH_NUMBER;
        }

        int checkShelfWarmth(int shelf, int value) {
            if (!within(shelf, 0, SHELVES - 1)) {
                return NO_SUCH_NUMBER;
            }
            return isWarmth(value) ? FINE : BAD_ARGUMENT;
        }

        int checkTurn(int by) {
            if (!within(by, -MOST_TURN, MOST_TURN)) {
                return BAD_ARGUMENT;
            }
            return within(nut + by, -MOST_NUT, MOST_NUT) ? FINE : BAD_STATE;
        }

        int checkSetting(int what, int value) {
            boolean fits = within(what, 0, SETTINGS - 1)
                    && within(value, LEAST_SETTINGS[what], MOST_SETTINGS[what]);
            return fits ? FINE : BAD_ARGUMENT;
        }

        int checkHours(int hours) {
            if (!within(hours, 1, MOST_HOURS)) {
                return BAD_ARGUMENT;
            }
            return time + hours <= LAST_TIME ? FINE : BAD_STATE;
        }

        int changeShelfWarmth(int shelf, int value) {
            int previous = shelfWarmths[shelf];
            shelfWarmths[shelf] = value;
            return previous;
        }

        int changeShelf(int shelf) {
            int previous = shelfNumber;
            shelfNumber = shelf;
            return previous;
        }

        int changeNut(int by) {
            nut += by;
            return nut;
        }

        int fillDrive() {
            int previous = drive;
            drive = FULL_DRIVE;
            return previous;
        }

        int changeSetting(int what, int value) {
            int previous = settings[what];
            settings[what] = value;
            return previous;
        }

        int shelfWarmth(int shelf) {
            return within(shelf, 0, SHELVES - 1) ? shelfWarmths[shelf] : FIRST_WARMTH;
        }

        int arcBy(int someDrive) {
            return settings[REST_ARC] + someDrive / 8;
        }

        int lossBy(int someDrive) {
            int arc = arcBy(someDrive);
            return arc * arc * 165 / 100;
        }

        int warmthAfterHour(int before) {
            int missing = shelfWarmth(shelfNumber) - before;
            int change = (int) floorOf(missing, settings[LAG]);
            // The floor is 0 for a shelf that is a little warmer, never for a colder one.
            return before + (change == 0 && missing != 0 ? 1 : change);
        }

        int errorOfClock() {
            return (int) clamp(Math.floorDiv(rateSum, (long) DAY_HOURS), LEAST_ERROR, MOST_ERROR);
        }
    }

    private static final class DayLog {
        int days;
        // The values of the latest day stand first.
        final long[] values = new long[MOST_DAYS * DAY_VALUES];

        void copyFrom(DayLog other) {
            days = other.days;
            System.arraycopy(other.values, 0, values, 0, MOST_DAYS * DAY_VALUES);
        }

        void append(int warmth, int rate, long change, int hours) {
            System.arraycopy(values, 0, values, DAY_VALUES, (MOST_DAYS - 1) * DAY_VALUES);
            values[0] = warmth;
            values[1] = rate;
            values[2] = change;
            values[3] = hours;
            days = Math.min(days + 1, MOST_DAYS);
        }

        long dayValue(int day, int what) {
            boolean isThere = within(day, 0, days - 1) && within(what, 0, DAY_VALUES - 1);
            return isThere ? values[day * DAY_VALUES + what] : NONE;
        }
    }

    /** All that an undo brings back: everything but the command text. */
    private static final class State {
        final Grid grid = new Grid();
        final Bench bench = new Bench();
        final DayLog log = new DayLog();

        void copyFrom(State other) {
            grid.copyFrom(other.grid);
            bench.copyFrom(other.bench);
            log.copyFrom(other.log);
        }

        int wholeValue(int what) {
            switch (what) {
                case 0: return grid.metals;
                case 1: return grid.rods;
                case 2: return bench.shelfNumber;
                case 3: return bench.warmth;
                case 4: return bench.nut;
                case 5: return bench.drive;
                case 6: return bench.arcBy(bench.drive);
                case 7: return bench.lossBy(bench.drive);
                case 8: return lengthNow();
                case 9: return rateFor(bench.warmth, bench.drive);
                case 10: return bench.time;
                case 11: return bench.went;
                case 12: return bench.stood;
                case 13: return bench.settings[NOMINAL];
                case 14: return bench.settings[LAG];
                case 15: return bench.settings[REST_ARC];
                default: return log.days;
            }
        }

        int lengthNow() {
            return (int) (grid.lengthOfRods(bench.warmth) + (long) NUT_LENGTH * bench.nut);
        }

        int rateFor(int warmth, int drive) {
            return rateWith(bench.nut, grid.lengthOfRods(warmth), drive);
        }

        int rateWith(int nut, long rodLength, int drive) {
            long nominal = bench.settings[NOMINAL];
            long length = rodLength + (long) NUT_LENGTH * nut;
            long free = floorOf(43200000L * (nominal - length), nominal);
            return (int) clamp(free, -MOST_RATE, MOST_RATE) - bench.lossBy(drive);
        }

        int passHours(int hours) {
            for (int hour = 0; hour < hours; hour++) {
                bench.warmth = bench.warmthAfterHour(bench.warmth);
                if (bench.drive > 0) {
                    bench.rateSum += rateFor(bench.warmth, bench.drive);
                    bench.went++;
                    bench.drive--;
                } else {
                    bench.stood++;
                }
                bench.time++;
                if (bench.time % DAY_HOURS == 0) {
                    endDay(rateFor(bench.warmth, bench.drive));
                }
            }
            return bench.errorOfClock();
        }

        void endDay(int rate) {
            log.append(bench.warmth, rate, bench.rateSum - bench.rateSumBefore, bench.went - bench.wentBefore);
            bench.rateSumBefore = bench.rateSum;
            bench.wentBefore = bench.went;
        }

        long changeOfRates(int hours) {
            long change = 0;
            int warmth = bench.warmth;
            int drive = bench.drive;
            // Once it stands, the sum stays.
            for (int hour = 0; hour < hours && drive > 0; hour++) {
                warmth = bench.warmthAfterHour(warmth);
                change += rateFor(warmth, drive);
                drive--;
            }
            return change;
        }

        int spreadOfRates(int low, int high) {
            int least = rateFor(low, bench.drive);
            int greatest = least;
            for (int warmth = low + WARMTH_STEP; warmth <= high; warmth += WARMTH_STEP) {
                int rate = rateFor(warmth, bench.drive);
                least = Math.min(least, rate);
                greatest = Math.max(greatest, rate);
            }
            return greatest - least;
        }

        int nearestNut() {
            long rodLength = grid.lengthOfRods(bench.warmth);
            int edge = leastNutWithRateTo(0, rodLength);
            if (edge <= -MOST_NUT) {
                return -MOST_NUT;
            }
            int above = rateWith(edge - 1, rodLength, bench.drive);
            if (edge > MOST_NUT || above <= -rateWith(edge, rodLength, bench.drive)) {
                return leastNutWithRateTo(above, rodLength);
            }
            return edge;
        }

        // The rate never grows with the nut, so all nuts with a rate above the bound come first.
        // Answers MOST_NUT + 1 if there is no other nut.
        int leastNutWithRateTo(int bound, long rodLength) {
            int lastAbove = -MOST_NUT - 1;
            for (int step = 512; step > 0; step /= 2) {
                int nut = lastAbove + step;
                if (nut <= MOST_NUT && rateWith(nut, rodLength, bench.drive) > bound) {
                    lastAbove = nut;
                }
            }
            return lastAbove + 1;
        }
    }

    /** The undo stack: a ring of states that are made once and written again and again. */
    private static final class SavedStates {
        final State[] ring = new State[MOST_SAVED];
        int next;
        int size;

        SavedStates() {
            for (int place = 0; place < MOST_SAVED; place++) {
                ring[place] = new State();
            }
        }

        void push(State state) {
            State slot = ring[next];
            if (slot == null) {
                return;
            }
            slot.copyFrom(state);
            next = (next + 1) % MOST_SAVED;
            size = Math.min(size + 1, MOST_SAVED);
        }

        int popInto(State state) {
            next = (next + MOST_SAVED - 1) % MOST_SAVED;
            State slot = ring[next];
            if (slot != null) {
                state.copyFrom(slot);
            }
            size--;
            return size;
        }
    }

    /** The command text, and a reader that goes through it command by command. */
    private static final class CommandText {
        final byte[] bytes = new byte[MOST_BYTES];
        int length;
        int place;
        int fault;
        Word word;
        int first;
        int second;

        int checkByte(int value) {
            if (!within(value, 0, MOST_BYTE)) {
                return BAD_ARGUMENT;
            }
            return length < MOST_BYTES ? FINE : BAD_STATE;
        }

        int append(int value) {
            bytes[length] = (byte) value;
            length++;
            return length;
        }

        int empty() {
            int previous = length;
            length = 0;
            return previous;
        }

        void rewind() {
            place = 0;
            fault = NO_FAULT;
        }

        int findFault() {
            rewind();
            int read = 0;
            while (read < MOST_BYTES && readCommand()) {
                read++;
            }
            return fault;
        }

        /** Answers whether there was a command; if not, the text is at its end or has a fault. */
        boolean readCommand() {
            skipSpaces();
            return place < length && readWord() && readNumbers() && readSemicolon();
        }

        boolean readWord() {
            int start = place;
            while (place < length && byteHere() >= 'a' && byteHere() <= 'z') {
                place++;
            }
            word = wordBetween(start, place);
            return word != null || failAt(start);
        }

        boolean readNumbers() {
            int numbers = word == null ? 0 : word.numbers;
            first = numbers > 0 ? readNumber() : 0;
            second = numbers > 1 && first != NO_NUMBER ? readNumber() : 0;
            return first != NO_NUMBER && second != NO_NUMBER;
        }

        int readNumber() {
            boolean isApart = byteHere() == SPACE;
            skipSpaces();
            int number = 0;
            int digits = 0;
            while (isApart && digits < MOST_DIGITS && byteHere() >= '0' && byteHere() <= '9') {
                number = 10 * number + byteHere() - '0';
                digits++;
                place++;
            }
            if (digits == 0) {
                fault = place;
            }
            return digits == 0 ? NO_NUMBER : number;
        }

        boolean readSemicolon() {
            skipSpaces();
            if (byteHere() != SEMICOLON) {
                return failAt(place);
            }
            place++;
            return true;
        }

        void skipSpaces() {
            while (place < length && bytes[place] == SPACE) {
                place++;
            }
        }

        boolean failAt(int index) {
            fault = index;
            return false;
        }

        int byteHere() {
            return place >= 0 && place < length ? bytes[place] : TEXT_END;
        }

        Word wordBetween(int start, int end) {
            for (int number = 0; number < WORDS.length; number++) {
                if (isBetween(WORDS[number].letters, start, end)) {
                    return WORDS[number];
                }
            }
            return null;
        }

        boolean isBetween(String letters, int start, int end) {
            if (letters.length() != end - start || start < 0 || end > length) {
                return false;
            }
            for (int index = 0; index < letters.length(); index++) {
                if (letters.charAt(index) != bytes[start + index]) {
                    return false;
                }
            }
            return true;
        }
    }
}
