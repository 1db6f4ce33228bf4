import java.util.ArrayDeque;
import java.util.ArrayList;
import java.util.Arrays;
import java.util.Deque;
import java.util.List;

/**
 * The document once more, told another way than in RodGrids: with the Java library, exceptions, copies, and
 * searches that try every value. The random tests compare the two.
 */
final class Model {
    static final int NONE = -2000000000;
    private static final List<String> WORDS = Arrays.asList("metal", "down", "up", "cut", "warm", "cold", "hang",
            "nut", "back", "wind", "set", "pass");
    private static final int[] COUNTS = {1, 2, 2, 2, 2, 2, 1, 1, 1, 0, 2, 1};

    /** A rod: metal, direction, length. */
    private static final class Saved {
        List<Integer> metals = new ArrayList<>(List.of(115, 190));
        List<int[]> rods = new ArrayList<>();
        int[] shelves = {200, 200, 200, 200, 200};
        int shelf = 0;
        int warmth = 200;
        int nut = 0;
        int drive = 192;
        int[] settings = {994000, 4, 20};
        long sum = 0;
        int time = 0;
        int went = 0;
        int stood = 0;
        long[] sums = {0, 0};
        List<long[]> log = new ArrayList<>();

        Saved copy() {
            Saved c = new Saved();
            c.metals = new ArrayList<>(metals);
            for (int[] r : rods) {
                c.rods.add(r.clone());
            }
            c.shelves = shelves.clone();
            c.shelf = shelf;
            c.warmth = warmth;
            c.nut = nut;
            c.drive = drive;
            c.settings = settings.clone();
            c.sum = sum;
            c.time = time;
            c.went = went;
            c.stood = stood;
            c.sums = sums.clone();
            for (long[] d : log) {
                c.log.add(d.clone());
            }
            return c;
        }
    }

    private Saved s = new Saved();
    private final Deque<Saved> undos = new ArrayDeque<>();
    private final StringBuilder text = new StringBuilder();
    private boolean inRun = false;

    private void save(Saved before) {
        if (!inRun) {
            undos.addLast(before);
            if (undos.size() > 4) {
                undos.removeFirst();
            }
        }
    }

    private void save() {
        save(s.copy());
    }

    private static void index(boolean fine) {
        if (!fine) {
            throw new IndexOutOfBoundsException();
        }
    }

    private static void argument(boolean fine) {
        if (!fine) {
            throw new IllegalArgumentException();
        }
    }

    private static void state(boolean fine) {
        if (!fine) {
            throw new IllegalStateException();
        }
    }

    int addMetal(int stretch) {
        argument(stretch >= 0 && stretch <= 500);
        state(s.metals.size() != 6);
        save();
        s.metals.add(stretch);
        return s.metals.size() - 1;
    }

    int setStretch(int metal, int stretch) {
        index(metal >= 0 && metal < s.metals.size());
        argument(stretch >= 0 && stretch <= 500);
        save();
        return s.metals.set(metal, stretch);
    }

    int addRod(int metal, int direction, int length) {
        index(metal >= 0 && metal < s.metals.size());
        argument((direction == 1 || direction == -1) && length >= 1 && length <= 1000000);
        state(s.rods.size() != 9);
        save();
        s.rods.add(new int[] {metal, direction, length});
        return s.rods.size() - 1;
    }

    int removeRod(int rod) {
        index(rod >= 0 && rod < s.rods.size());
        save();
        s.rods.remove(rod);
        return s.rods.size();
    }

    int setLength(int rod, int length) {
        index(rod >= 0 && rod < s.rods.size());
        argument(length >= 1 && length <= 1000000);
        save();
        int old = s.rods.get(rod)[2];
        s.rods.get(rod)[2] = length;
        return old;
    }

    int setShelf(int shelf, int warmth) {
        index(shelf >= 0 && shelf < 5);
        argument(warmth >= -300 && warmth <= 600);
        save();
        int old = s.shelves[shelf];
        s.shelves[shelf] = warmth;
        return old;
    }

    int hang(int shelf) {
        index(shelf >= 0 && shelf < 5);
        save();
        int old = s.shelf;
        s.shelf = shelf;
        return old;
    }

    int turnNut(int by) {
        argument(by >= -1000 && by <= 1000);
        state(s.nut + by >= -500 && s.nut + by <= 500);
        save();
        return s.nut = s.nut + by;
    }

    int wind() {
        save();
        int old = s.drive;
        s.drive = 192;
        return old;
    }

    int set(int what, int value) {
        argument(what == 0 && value >= 100000 && value <= 2000000 || what == 1 && value >= 1 && value <= 24
                || what == 2 && value >= 0 && value <= 100);
        save();
        int old = s.settings[what];
        s.settings[what] = value;
        return old;
    }

    int pass(int hours) {
        argument(hours >= 1 && hours <= 500);
        state(s.time + hours <= 100000);
        save();
        for (int h = 0; h < hours; h++) {
            hour();
        }
        long error = floor(s.sum, 24);
        return (int) (error < -1999999999L ? -1999999999L : error > 2000000000L ? 2000000000L : error);
    }

    private void hour() {
        s.warmth = warmer(s.warmth);
        if (s.drive > 0) {
            s.sum += rate(s.warmth);
            s.went++;
        } else {
            s.stood++;
        }
        s.drive = s.drive > 0 ? s.drive - 1 : 0;
        s.time++;
        if (s.time % 24 == 0) {
            s.log.add(0, new long[] {s.warmth, rate(s.warmth), s.sum - s.sums[0], s.went - s.sums[1]});
            if (s.log.size() > 10) {
                s.log.remove(10);
            }
            s.sums = new long[] {s.sum, s.went};
        }
    }

    private int warmer(int t) {
        int goal = s.shelves[s.shelf];
        long change = floor(goal - t, s.settings[1]);
        if (change == 0 && goal != t) {
            change = goal > t ? 1 : -1;
        }
        return (int) (t + change);
    }

    /** Floor by the remainder, not by Math.floorDiv. */
    static long floor(long a, long b) {
        long q = a / b;
        return a % b != 0 && (a < 0) != (b < 0) ? q - 1 : q;
    }

    private long stretching(int[] rod, int t) {
        return floor((long) rod[2] * s.metals.get(rod[0]) * (t - 200), 100000000L);
    }

    private long length(int t) {
        long sum = 10L * s.nut;
        for (int[] r : s.rods) {
            sum += r[1] * (r[2] + stretching(r, t));
        }
        return sum;
    }

    private int loss() {
        int arc = s.settings[2] + s.drive / 8;
        return (int) floor(arc * arc * 165L, 100);
    }

    private int rate(int t) {
        long r = floor(43200000L * (s.settings[0] - length(t)), s.settings[0]);
        if (r > 1000000000L) {
            r = 1000000000L;
        }
        if (r < -1000000000L) {
            r = -1000000000L;
        }
        return (int) r - loss();
    }

    int rod(int rod, int what) {
        index(rod >= 0 && rod < s.rods.size());
        argument(what >= 0 && what <= 4);
        int[] r = s.rods.get(rod);
        return what < 3 ? r[what] : (int) (stretching(r, s.warmth) + (what == 4 ? r[2] : 0));
    }

    int stretch(int metal) {
        index(metal >= 0 && metal < s.metals.size());
        return s.metals.get(metal);
    }

    int shelf(int shelf) {
        index(shelf >= 0 && shelf <= 4);
        return s.shelves[shelf];
    }

    int whole(int what) {
        argument(what >= 0 && what <= 17);
        long[] all = {s.metals.size(), s.rods.size(), s.shelf, s.warmth, s.nut, s.drive, s.settings[2] + s.drive / 8,
            loss(), length(s.warmth), rate(s.warmth), s.time, s.went, s.stood, s.settings[0], s.settings[1],
            s.settings[2], s.log.size(), text.length()};
        return (int) all[what];
    }

    long balance() {
        long sum = 0;
        for (int[] r : s.rods) {
            sum += (long) r[1] * r[2] * s.metals.get(r[0]);
        }
        return sum;
    }

    long rates() {
        return s.sum;
    }

    int balanceBits() {
        if (s.rods.isEmpty()) {
            return Float.floatToIntBits(0.0f);
        }
        int lengths = 0;
        for (int[] r : s.rods) {
            lengths += r[2];
        }
        return Float.floatToIntBits((float) balance() / (float) lengths);
    }

    long day(int day, int what) {
        argument(day >= 0 && what >= 0 && what <= 3);
        return day < s.log.size() ? s.log.get(day)[what] : NONE;
    }

    double meanRate() {
        return s.went == 0 ? 0.0 : (double) s.sum / (double) s.went;
    }

    int rateAt(int warmth) {
        argument(warmth >= -300 && warmth <= 600);
        return rate(warmth);
    }

    int matchLength(int rod) {
        index(rod >= 0 && rod < s.rods.size());
        int[] r = s.rods.get(rod);
        long stretch = (long) r[1] * s.metals.get(r[0]);
        long others = balance() - stretch * r[2];
        int best = 1;
        for (int length = 2; length <= 1000000; length++) {
            if (Math.abs(others + stretch * length) < Math.abs(others + stretch * best)) {
                best = length;
            }
        }
        return best;
    }

    int bestNut() {
        int kept = s.nut;
        int best = -500;
        long nearest = Long.MAX_VALUE;
        for (int nut = -500; nut <= 500; nut++) {
            s.nut = nut;
            if (Math.abs((long) rate(s.warmth)) < nearest) {
                nearest = Math.abs((long) rate(s.warmth));
                best = nut;
            }
        }
        s.nut = kept;
        return best;
    }

    int rangeOfRates(int low, int high) {
        argument(low >= -300 && low <= 600 && high >= low && high <= 600);
        List<Integer> rates = new ArrayList<>();
        for (int t = low; t <= high; t += 10) {
            rates.add(rate(t));
        }
        return java.util.Collections.max(rates) - java.util.Collections.min(rates);
    }

    long changeWithin(int hours) {
        argument(hours >= 0 && hours <= 500);
        Saved kept = s;
        s = kept.copy();
        for (int h = 0; h < hours; h++) {
            hour();
        }
        long change = s.sum - kept.sum;
        s = kept;
        return change;
    }

    int type(int value) {
        argument(value >= 0 && value <= 127);
        state(text.length() < 150);
        text.append((char) value);
        return text.length();
    }

    int clearCommands() {
        int old = text.length();
        text.setLength(0);
        return old;
    }

    int runCommands() {
        int fault = fault();
        if (fault >= 0) {
            return -10 - fault;
        }
        save();
        inRun = true;
        int done = 0;
        try {
            for (String command : text.toString().split(";")) {
                if (!command.isBlank()) {
                    carryOut(command.trim().split(" +"));
                    done++;
                }
            }
        } catch (IndexOutOfBoundsException | IllegalArgumentException | IllegalStateException e) {
            // The run ends here; what was done stays.
        }
        inRun = false;
        return done;
    }

    private void carryOut(String[] c) {
        int a = c.length > 1 ? Integer.parseInt(c[1]) : 0;
        int b = c.length > 2 ? Integer.parseInt(c[2]) : 0;
        switch (c[0]) {
            case "metal" -> addMetal(a);
            case "down" -> addRod(a, 1, b);
            case "up" -> addRod(a, -1, b);
            case "cut" -> setLength(a, b);
            case "warm" -> setShelf(a, b);
            case "cold" -> setShelf(a, -b);
            case "hang" -> hang(a);
            case "nut" -> turnNut(a);
            case "back" -> turnNut(-a);
            case "wind" -> wind();
            case "set" -> set(a, b);
            case "pass" -> pass(a);
            default -> throw new AssertionError(c[0]);
        }
    }

    /** The fault of the text by a machine of four states, byte by byte; -1 if there is none. */
    private int fault() {
        int state = 0;
        int start = 0;
        int need = 0;
        int digits = 0;
        for (int i = 0; i <= text.length(); i++) {
            int c = i < text.length() ? text.charAt(i) : -1;
            boolean letter = c >= 'a' && c <= 'z';
            boolean digit = c >= '0' && c <= '9';
            if (state == 1 && !letter) {
                int word = WORDS.indexOf(text.substring(start, i));
                if (word < 0) {
                    return start;
                }
                need = COUNTS[word];
                state = 4;
            }
            if (state == 0 && letter) {
                state = 1;
                start = i;
            } else if (state == 0 && c == -1) {
                return -1;
            } else if (state == 1 || state == 0 && c == ' ') {
                continue;
            } else if (state != 0 && c == ' ') {
                need -= state == 3 ? 1 : 0;
                state = 2;
            } else if (state == 2 && digit && need > 0) {
                state = 3;
                digits = 1;
            } else if (state == 3 && digit && digits < 7) {
                digits++;
            } else if (state != 0 && c == ';' && need == (state == 3 ? 1 : 0)) {
                state = 0;
            } else {
                return i;
            }
        }
        throw new AssertionError("the end of the text is always judged");
    }

    int undo() {
        state(!undos.isEmpty());
        s = undos.removeLast();
        return undos.size();
    }

    long digest() {
        List<Long> values = new ArrayList<>();
        values.add((long) undos.size());
        for (int i = 0; i < 18; i++) {
            values.add((long) whole(i));
        }
        values.addAll(List.of(balance(), rates(), (long) balanceBits()));
        for (int m : s.metals) {
            values.add((long) m);
        }
        for (int w : s.shelves) {
            values.add((long) w);
        }
        for (int r = 0; r < s.rods.size(); r++) {
            for (int i = 0; i < 5; i++) {
                values.add((long) rod(r, i));
            }
        }
        for (long[] day : s.log) {
            for (long v : day) {
                values.add(v);
            }
        }
        values.add((long) bestNut());
        long h = 43239;
        for (long v : values) {
            h = 31 * h + v;
        }
        return h;
    }
}
