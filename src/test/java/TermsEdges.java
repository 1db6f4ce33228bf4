/** The boundaries that the document's terms name: metals and rods, the pendulum, shelves, an hour and the log. */
final class TermsEdges {
    private TermsEdges() {
    }

    static void run() {
        Edges.section("What it is");
        Edges.says("An object is used for at most 512 calls after it has been made", TermsEdges::the512thCall);
        Edges.section("Terms");
        Edges.says("floor(a / b) rounds towards minus infinity.", TermsEdges::floors);
        metalsAndRods();
        pendulum();
        shelves();
        hours();
        log();
    }

    private static void the512thCall() {
        RodGrids x = Edges.bench(Edges::oneRod);
        for (int call = 2; call <= 510; call++) {
            x.pass(1);
        }
        Check.due("whole(10), the 511th call", x.whole(10), 509);
        Check.due("undo(), the 512th call", x.undo(), 3);
    }

    private static void floors() {
        RodGrids x = Edges.bench(b -> b.addRod(0, 1, 1));
        Edges.warmTo(x, 199);
        Check.due("rod(0, 3) of floor(-115 / 100000000)", x.rod(0, 3), -1);
        Edges.warmTo(x, 201);
        Check.due("rod(0, 3) of floor(115 / 100000000)", x.rod(0, 3), 0);
        Check.due("warmth by floor(-25 / 24)", warmthAfterHour(24, 175), 198);
        Check.due("warmth by floor(25 / 24)", warmthAfterHour(24, 225), 201);
        Check.due("rate by floor(-43.46)", Edges.bench(b -> b.addRod(0, 1, 994001)).whole(9), -44 - 3194);
        Check.due("rate by floor(43.46)", Edges.bench(b -> b.addRod(0, 1, 993999)).whole(9), 43 - 3194);
        Check.due("error by floor(-3194 / 24)", Edges.bench(Edges::oneRod).pass(1), -134);
        // 43200 - 3194 is 40006, which is 1666 times 24 and 22 more.
        RodGrids y = Edges.bench(b -> b.addRod(0, 1, 999000));
        y.set(0, 1000000);
        Check.due("error by floor(40006 / 24)", y.pass(1), 1666);
        RodGrids z = Edges.bench(b -> b.addRod(0, 1, 100001));
        z.set(0, 100000);
        Check.due("rate by floor(-432), which is exact", z.whole(9), -432 - 3194);
    }

    private static void metalsAndRods() {
        Edges.says("There are at most 6 metals, numbered from 0", TermsEdges::sixMetals);
        Edges.says("each with a stretch (0 to 500", TermsEdges::stretches);
        Edges.says("the metals 0 and 1 are there at first, with the stretches 115 and 190", TermsEdges::firstMetals);
        Edges.says("There are at most 9 rods, numbered from 0 in their order", TermsEdges::nineRods);
        Edges.says("with a direction (1 down, -1 up)", TermsEdges::directions);
        Edges.says("a length (1 to 1000000)", TermsEdges::lengths);
        Edges.says("the stretching of a rod is floor(length * stretch * (t - 200) / 100000000)", TermsEdges::stretching);
        Edges.says("(long arithmetic), and its length is its own length plus that", TermsEdges::longStretching);
        Edges.says("The balance of the grid is the sum of direction * length * stretch over all rods",
                TermsEdges::balanceOfMany);
        Edges.says("a grid is matched if it is 0", TermsEdges::matchedGrid);
    }

    private static void sixMetals() {
        RodGrids x = new RodGrids();
        for (int metal = 2; metal < 6; metal++) {
            Check.due("addMetal(" + metal + ")", x.addMetal(metal), metal);
        }
        Edges.whole(x, 0, 6);
        Check.due("stretch(5)", x.stretch(5), 5);
        Check.due("addRod(5, 1, 7)", x.addRod(5, 1, 7), 0);
        Check.noSuch(x, "stretch(6)", () -> x.stretch(6));
        Edges.refused(GridEdges::sixMetals, "addMetal(1) to 6", Edges.BAD_STATE, b -> b.addMetal(1));
    }

    private static void stretches() {
        RodGrids x = new RodGrids();
        Check.due("addMetal(0)", x.addMetal(0), 2);
        Check.due("addMetal(500)", x.addMetal(500), 3);
        Check.due("stretch(2)", x.stretch(2), 0);
        Check.due("stretch(3)", x.stretch(3), 500);
        x.addRod(2, 1, 1000000);
        x.addRod(3, 1, 1000000);
        Check.due("balance()", x.balance(), 500000000L);
    }

    private static void firstMetals() {
        RodGrids x = new RodGrids();
        Edges.whole(x, 0, 2);
        Check.due("stretch(0)", x.stretch(0), 115);
        Check.due("stretch(1)", x.stretch(1), 190);
        Check.noSuch(x, "stretch(2)", () -> x.stretch(2));
    }

    private static void nineRods() {
        RodGrids x = new RodGrids();
        for (int rod = 0; rod < 9; rod++) {
            Check.due("addRod of " + (100 + rod), x.addRod(rod % 2, 1, 100 + rod), rod);
        }
        Edges.whole(x, 1, 9);
        for (int rod = 0; rod < 9; rod++) {
            Check.due("rod(" + rod + ", 2)", x.rod(rod, 2), 100 + rod);
            Check.due("rod(" + rod + ", 0)", x.rod(rod, 0), rod % 2);
        }
        Check.noSuch(x, "rod(9, 0)", () -> x.rod(9, 0));
        Check.badState(x, "addRod to 9", () -> x.addRod(0, 1, 5));
        x.removeRod(4);
        Check.due("addRod to 8", x.addRod(0, 1, 5), 8);
        Check.badState(x, "addRod to 9 again", () -> x.addRod(0, 1, 5));
    }

    private static void directions() {
        RodGrids x = new RodGrids();
        x.addRod(0, 1, 5000);
        Edges.whole(x, 8, 5000);
        x.addRod(0, -1, 7000);
        Edges.whole(x, 8, -2000);
        Check.due("balance()", x.balance(), -2000L * 115);
    }

    private static void lengths() {
        RodGrids x = new RodGrids();
        Check.due("addRod(0, 1, 1)", x.addRod(0, 1, 1), 0);
        Check.due("addRod(0, 1, 1000000)", x.addRod(0, 1, 1000000), 1);
        Check.due("rod(0, 2)", x.rod(0, 2), 1);
        Check.due("rod(1, 2)", x.rod(1, 2), 1000000);
        Edges.whole(x, 8, 1000001);
    }

    /** What rod(0, 3) answers of a rod that leads down. */
    private static int stretchingOf(int length, int stretch, int warmth) {
        RodGrids x = new RodGrids();
        x.setStretch(0, stretch);
        x.addRod(0, 1, length);
        Edges.warmTo(x, warmth);
        return x.rod(0, 3);
    }

    private static void stretching() {
        Check.due("at 200", stretchingOf(1000000, 500, 200), 0);
        Check.due("just below 1", stretchingOf(999999, 100, 201), 0);
        Check.due("exactly 1", stretchingOf(1000000, 100, 201), 1);
        Check.due("just above -1", stretchingOf(999999, 100, 199), -1);
        Check.due("exactly -1", stretchingOf(1000000, 100, 199), -1);
        Check.due("just below -1", stretchingOf(1000000, 101, 199), -2);
        Check.due("without a stretch, in the heat", stretchingOf(1000000, 0, 600), 0);
        Check.due("without a stretch, in the cold", stretchingOf(1000000, 0, -300), 0);
    }

    private static void longStretching() {
        Check.due("2000000000 / 100000000", stretchingOf(1000000, 500, 204), 20);
        Check.due("2500000000 / 100000000", stretchingOf(1000000, 500, 205), 25);
        Check.due("-2500000000 / 100000000", stretchingOf(1000000, 500, 195), -25);
        Check.due("most of all", stretchingOf(1000000, 500, 600), 2000);
        Check.due("least of all", stretchingOf(1000000, 500, -300), -2500);
        RodGrids x = Edges.bench(b -> b.addRod(0, -1, 1000000));
        x.setStretch(0, 500);
        Edges.warmTo(x, -300);
        Check.due("rod(0, 4)", x.rod(0, 4), 997500);
        Edges.whole(x, 8, -997500);
    }

    private static void balanceOfMany() {
        for (int direction = -1; direction <= 1; direction += 2) {
            RodGrids x = new RodGrids();
            x.setStretch(0, 500);
            for (int rod = 1; rod <= 9; rod++) {
                x.addRod(0, direction, 1000000);
                Check.due("balance() of " + rod, x.balance(), direction * rod * 500000000L);
            }
        }
    }

    private static void matchedGrid() {
        RodGrids x = new RodGrids();
        Check.due("balance() without rods", x.balance(), 0L);
        x.addRod(0, 1, 190);
        x.addRod(1, -1, 115);
        Check.due("balance() of a matched grid", x.balance(), 0L);
        x.setLength(0, 191);
        Check.due("balance() of one more down", x.balance(), 115L);
        x.setLength(0, 189);
        Check.due("balance() of one less down", x.balance(), -115L);
    }

    private static void pendulum() {
        Edges.says("The pendulum has a warmth (200 at first)", () -> Edges.whole(new RodGrids(), 3, 200));
        Edges.says("a nut (-500 to 500; 0 at first)", TermsEdges::nuts);
        Edges.says("Its length at the warmth t is the sum of direction * (length of the rod at t) over all rods, plus 10 * nut.",
                TermsEdges::lengthOfPendulum);
        Edges.says("There is a nominal length (100000 to 2000000; 994000 at first).", TermsEdges::nominalLengths);
        Edges.says("It has a drive (0 to 192 hours; 192 at first)", TermsEdges::drives);
        Edges.says("an arc: rest arc + floor(drive / 8)", TermsEdges::arcs);
        Edges.says("with the rest arc (0 to 100; 20 at first)", TermsEdges::restArcs);
        Edges.says("The loss by the arc is floor(arc * arc * 165 / 100).", TermsEdges::losses);
        Edges.says("which is told of a pendulum that stands, too", TermsEdges::rateThatStands);
        Edges.says("is floor(43200000 * (nominal length - length at t) / nominal length) minus the loss by the arc",
                TermsEdges::ratesByNominal);
        Edges.says("as they are at that time", TermsEdges::rateAtItsTime);
        Edges.says("(Long arithmetic, brought into", TermsEdges::longRates);
        Edges.says("the range from -1000000000 to 1000000000 before the loss is taken away.)", TermsEdges::rangeOfRate);
    }

    private static void nuts() {
        RodGrids x = new RodGrids();
        Edges.whole(x, 4, 0);
        Check.due("turnNut(500)", x.turnNut(500), 500);
        Edges.whole(x, 8, 5000);
        Check.due("turnNut(-1000)", x.turnNut(-1000), -500);
        Edges.whole(x, 8, -5000);
    }

    private static void lengthOfPendulum() {
        RodGrids x = new RodGrids();
        Edges.whole(x, 8, 0);
        x.setStretch(0, 500);
        Edges.addRods(x, 9, 1, 1000000);
        Edges.warmTo(x, 600);
        x.turnNut(500);
        Edges.whole(x, 8, 9 * 1002000 + 5000);
        RodGrids y = new RodGrids();
        y.setStretch(0, 500);
        Edges.addRods(y, 9, -1, 1000000);
        Edges.warmTo(y, 600);
        y.turnNut(-500);
        Edges.whole(y, 8, -9 * 1002000 - 5000);
        // Each rod is rounded for itself: -1 and +1, not the floor of 0.
        RodGrids z = new RodGrids();
        z.addRod(0, 1, 10);
        z.addRod(1, -1, 3);
        Edges.warmTo(z, 199);
        Edges.whole(z, 8, 9 - 2);
    }

    private static void nominalLengths() {
        RodGrids x = new RodGrids();
        Edges.whole(x, 13, 994000);
        Check.due("set(0, 100000)", x.set(0, 100000), 994000);
        x.addRod(0, 1, 100001);
        Edges.whole(x, 9, -432 - 3194);
        Check.due("set(0, 2000000)", x.set(0, 2000000), 100000);
        x.addRod(0, 1, 1000000);
        x.addRod(0, 1, 900009);
        Edges.whole(x, 8, 2000010);
        Edges.whole(x, 9, -216 - 3194);
    }

    private static void drives() {
        RodGrids x = new RodGrids();
        Edges.whole(x, 5, 192);
        x.pass(191);
        Edges.whole(x, 5, 1);
        x.pass(1);
        Edges.whole(x, 5, 0);
        x.pass(1);
        Edges.whole(x, 5, 0);
    }

    private static void arcs() {
        int[][] drivesAndArcs = {{192, 44}, {191, 43}, {184, 43}, {183, 42}, {16, 22}, {15, 21}, {8, 21}, {7, 20}, {1, 20}, {0, 20}};
        for (int[] pair : drivesAndArcs) {
            RodGrids x = new RodGrids();
            Edges.passAll(x, 192 - pair[0]);
            Edges.whole(x, 5, pair[0]);
            Check.due("arc by the drive " + pair[0], x.whole(6), pair[1]);
        }
    }

    private static void restArcs() {
        RodGrids x = new RodGrids();
        Edges.whole(x, 15, 20);
        Check.due("set(2, 0)", x.set(2, 0), 20);
        Edges.whole(x, 6, 24);
        Check.due("set(2, 100)", x.set(2, 100), 0);
        Edges.whole(x, 6, 124);
        x.pass(192);
        Edges.whole(x, 6, 100);
        x.set(2, 0);
        Edges.whole(x, 6, 0);
    }

    private static void losses() {
        RodGrids x = new RodGrids();
        x.pass(192);
        // 1.65, 6.6, 26.4, 165 and 16500.
        int[][] arcsAndLosses = {{0, 0}, {1, 1}, {2, 6}, {4, 26}, {10, 165}, {100, 16500}};
        for (int[] pair : arcsAndLosses) {
            x.set(2, pair[0]);
            Check.due("loss by the arc " + pair[0], x.whole(7), pair[1]);
        }
        x.wind();
        // floor(124 * 124 * 1.65) is floor(25370.4).
        Edges.whole(x, 7, 25370);
    }

    private static void rateThatStands() {
        RodGrids x = Edges.bench(Edges::oneRod);
        x.pass(192);
        Edges.whole(x, 9, -660);
        x.pass(1);
        Edges.whole(x, 12, 1);
        Edges.whole(x, 9, -660);
        Check.due("rateAt(200)", x.rateAt(200), -660);
        x.setLength(0, 993000);
        // floor(43200000 * 1000 / 994000) is 43460.
        Edges.whole(x, 9, 43460 - 660);
    }

    private static void ratesByNominal() {
        RodGrids x = Edges.bench(Edges::oneRod);
        Edges.whole(x, 9, -3194);
        x.set(2, 0);
        Edges.whole(x, 9, -950);
        x.turnNut(1);
        // floor(-434.6) and floor(434.6).
        Edges.whole(x, 9, -435 - 950);
        x.turnNut(-2);
        Edges.whole(x, 9, 434 - 950);
        Check.due("rate without rods", new RodGrids().whole(9), 43200000 - 3194);
    }

    private static void rateAtItsTime() {
        RodGrids x = Edges.bench(Edges::oneRod);
        x.pass(1);
        Edges.whole(x, 9, -3050);
        x.wind();
        Edges.whole(x, 9, -3194);
        x.set(0, 100000);
        x.set(2, 10);
        // floor(34 * 34 * 1.65) is 1907.
        Edges.whole(x, 9, -432 * 894000 - 1907);
        Check.due("rates() of the hour before", x.rates(), -3194L);
    }

    /** The rate of a new bench with this length down (or up, if it is negative), in rods of at most 1000000. */
    private static int rateOf(int nominal, int length) {
        RodGrids x = new RodGrids();
        x.set(0, nominal);
        int direction = length < 0 ? -1 : 1;
        for (int rest = Math.abs(length); rest > 0; rest -= 1000000) {
            x.addRod(0, direction, Math.min(rest, 1000000));
        }
        Edges.whole(x, 8, length);
        return x.whole(9);
    }

    private static void longRates() {
        // 43200000 * 49 is an int, 43200000 * 50 is none: floor(2129.6) and floor(2173.04).
        Check.due("49 too short", rateOf(994000, 993951), 2129 - 3194);
        Check.due("50 too short", rateOf(994000, 993950), 2173 - 3194);
        Check.due("50 too long", rateOf(994000, 994050), -2174 - 3194);
        // With the nominal length 108000 each micrometer counts 400; the ints end at 5368709 micrometers.
        Check.due("5368710 too short", rateOf(108000, 108000 - 5368710), 1000000000 - 3194);
        Check.due("5368710 too long", rateOf(108000, 108000 + 5368710), -1000000000 - 3194);
    }

    private static void rangeOfRate() {
        Check.due("999999600", rateOf(108000, 108000 - 2499999), 999999600 - 3194);
        Check.due("1000000000", rateOf(108000, 108000 - 2500000), 1000000000 - 3194);
        Check.due("1000000400", rateOf(108000, 108000 - 2500001), 1000000000 - 3194);
        Check.due("-999999600", rateOf(108000, 108000 + 2499999), -999999600 - 3194);
        Check.due("-1000000000", rateOf(108000, 108000 + 2500000), -1000000000 - 3194);
        Check.due("-1000000400", rateOf(108000, 108000 + 2500001), -1000000000 - 3194);
        Check.due("999999648", rateOf(100000, 100000 - 2314814), 999999648 - 3194);
        Check.due("1000000080", rateOf(100000, 100000 - 2314815), 1000000000 - 3194);
        Check.due("-999999648", rateOf(100000, 100000 + 2314814), -999999648 - 3194);
        Check.due("-1000000080", rateOf(100000, 100000 + 2314815), -1000000000 - 3194);
    }

    private static void shelves() {
        Edges.says("There are 5 shelves, 0 to 4, each with a warmth (-300 to 600; 200 at first).", TermsEdges::fiveShelves);
        Edges.says("The pendulum hangs on one of them (0 at first).", () -> Edges.whole(new RodGrids(), 2, 0));
    }

    private static void fiveShelves() {
        RodGrids x = new RodGrids();
        for (int shelf = 0; shelf < 5; shelf++) {
            Check.due("shelf(" + shelf + ")", x.shelf(shelf), 200);
            Check.due("setShelf to the least", x.setShelf(shelf, -300), 200);
            Check.due("setShelf to the most", x.setShelf(shelf, 600), -300);
            Check.due("setShelf to its own", x.setShelf(shelf, 100 + shelf), 600);
        }
        for (int shelf = 0; shelf < 5; shelf++) {
            Check.due("shelf(" + shelf + ")", x.shelf(shelf), 100 + shelf);
        }
        Check.noSuch(x, "shelf(5)", () -> x.shelf(5));
        Check.noSuch(x, "shelf(-1)", () -> x.shelf(-1));
    }

    private static void hours() {
        Edges.says("(1) The warmth of the pendulum changes by floor((warmth of its shelf - its warmth) / lag)",
                TermsEdges::warmthByLag);
        Edges.says("with the lag (1 to 24; 4 at first)", TermsEdges::lags);
        Edges.says("if that is 0 and they differ, by 1 toward that of the shelf", TermsEdges::warmthByOne);
        Edges.says("(2) If the drive is above 0, the sum of the rates increases by the rate at its warmth, and the hours that it went by 1",
                TermsEdges::goingHour);
        Edges.says("otherwise it stands, and the hours that it stood increase by 1", TermsEdges::standingHour);
        Edges.says("(3) The drive decreases by 1, if it is above 0.", TermsEdges::driveOfHour);
        Edges.says("(4) The time increases by 1; if it is divisible by 24 then, the day is put into the log.",
                TermsEdges::endOfDay);
        Edges.says("The error of the clock is floor(sum of the rates / 24).", TermsEdges::errors);
    }

    /** The warmth that a pendulum of the warmth 200 has an hour later. */
    private static int warmthAfterHour(int lag, int shelf) {
        RodGrids x = new RodGrids();
        x.set(1, lag);
        x.setShelf(0, shelf);
        x.pass(1);
        return x.whole(3);
    }

    private static void warmthByLag() {
        // Warmth of the shelf, and the warmth an hour later by the lag 4.
        int[][] pairs = {{204, 201}, {207, 201}, {208, 202}, {600, 300}, {196, 199}, {195, 198}, {192, 198}, {191, 197}, {-300, 75}};
        for (int[] pair : pairs) {
            Check.due("toward " + pair[0], warmthAfterHour(4, pair[0]), pair[1]);
        }
        RodGrids x = new RodGrids();
        x.setShelf(3, 300);
        x.pass(1);
        Edges.whole(x, 3, 200);
        x.hang(3);
        Edges.whole(x, 3, 200);
        x.pass(1);
        Edges.whole(x, 3, 225);
    }

    private static void lags() {
        Edges.whole(new RodGrids(), 14, 4);
        Check.due("by the lag 1 to 600", warmthAfterHour(1, 600), 600);
        Check.due("by the lag 1 to -300", warmthAfterHour(1, -300), -300);
        Check.due("by the lag 24 to 248", warmthAfterHour(24, 248), 202);
        Check.due("by the lag 24 to 247", warmthAfterHour(24, 247), 201);
        Check.due("by the lag 24 to 600", warmthAfterHour(24, 600), 216);
        Check.due("by the lag 24 to -300", warmthAfterHour(24, -300), 179);
    }

    private static void warmthByOne() {
        Check.due("toward 203, where the floor is 0", warmthAfterHour(4, 203), 201);
        Check.due("toward 201, where the floor is 0", warmthAfterHour(4, 201), 201);
        Check.due("toward 200, where they do not differ", warmthAfterHour(4, 200), 200);
        Check.due("toward 199, where the floor is -1", warmthAfterHour(4, 199), 199);
        Check.due("toward 223 by the lag 24", warmthAfterHour(24, 223), 201);
        Check.due("toward 224 by the lag 24", warmthAfterHour(24, 224), 201);
        Check.due("toward 176 by the lag 24", warmthAfterHour(24, 176), 199);
        Check.due("toward 201 by the lag 1", warmthAfterHour(1, 201), 201);
        RodGrids x = new RodGrids();
        x.setShelf(0, 202);
        x.pass(2);
        Edges.whole(x, 3, 202);
        x.pass(1);
        Edges.whole(x, 3, 202);
    }

    private static void goingHour() {
        RodGrids x = Edges.bench(Edges::oneRod);
        x.set(1, 1);
        x.setShelf(0, 300);
        x.pass(1);
        // The warmth of (1) and the drive before (3): floor(-43200000 * 114 / 994000) and the loss 3194.
        Check.due("rates()", x.rates(), -4955L - 3194L);
        Edges.whole(x, 11, 1);
        Edges.whole(x, 12, 0);
        RodGrids y = Edges.bench(Edges::oneRod);
        y.pass(191);
        Edges.whole(y, 11, 191);
        long sum = y.rates();
        y.pass(1);
        Check.due("rates() of the last hour's drive", y.rates(), sum - 660L);
        Edges.whole(y, 11, 192);
        Edges.whole(y, 12, 0);
    }

    private static void standingHour() {
        RodGrids x = Edges.bench(Edges::oneRod);
        x.pass(192);
        long sum = x.rates();
        x.setShelf(0, 204);
        x.pass(1);
        Edges.whole(x, 11, 192);
        Edges.whole(x, 12, 1);
        Edges.whole(x, 3, 201);
        Edges.whole(x, 10, 193);
        Check.due("rates()", x.rates(), sum);
        x.wind();
        x.pass(1);
        Edges.whole(x, 11, 193);
        Edges.whole(x, 12, 1);
    }

    private static void driveOfHour() {
        RodGrids x = new RodGrids();
        x.pass(1);
        Edges.whole(x, 5, 191);
        x.pass(190);
        Edges.whole(x, 5, 1);
        x.pass(1);
        Edges.whole(x, 5, 0);
        x.pass(500);
        Edges.whole(x, 5, 0);
        x.wind();
        x.pass(1);
        Edges.whole(x, 5, 191);
    }

    private static void endOfDay() {
        RodGrids x = new RodGrids();
        int[] daysAt = {23, 0, 24, 1, 25, 1, 47, 1, 48, 2, 49, 2};
        int time = 0;
        for (int i = 0; i < daysAt.length; i += 2) {
            x.pass(daysAt[i] - time);
            time = daysAt[i];
            Edges.whole(x, 10, time);
            Check.due("days at " + time, x.whole(16), daysAt[i + 1]);
        }
        RodGrids y = new RodGrids();
        y.pass(72);
        Edges.whole(y, 16, 3);
    }

    private static void errors() {
        RodGrids x = Edges.bench(b -> b.addRod(0, 1, 999000));
        x.set(0, 1000000);
        x.set(2, 16);
        Check.due("error of 43200 - 2640, which is 24 * 1690", x.pass(1), 1690);
        RodGrids w = Edges.bench(b -> b.addRod(0, 1, 999000));
        w.set(0, 1000000);
        w.set(2, 15);
        Check.due("error of 43200 - 2509", w.pass(1), 1695);
        // -3194 and then -950 * 2: floor(-212.25).
        RodGrids y = Edges.bench(Edges::oneRod);
        y.pass(1);
        y.wind();
        y.set(2, 0);
        y.pass(1);
        y.wind();
        Check.due("error of -5094", y.pass(1), -213);
        Check.due("rates()", y.rates(), -5094L);
        RodGrids z = Edges.bench(Edges::oneRod);
        z.set(2, 36);
        // The arc 60 loses 5940 in an hour: 24 hours of it, by winding in between, lose 24 times 5940.
        for (int hour = 0; hour < 23; hour++) {
            z.pass(1);
            z.wind();
        }
        Check.due("error of 24 * -5940", z.pass(1), -5940);
        z.wind();
        Check.due("error of 25 * -5940", z.pass(1), -6188);
    }

    private static void log() {
        Edges.says("The log keeps the latest 10 days, numbered from 0 for the latest one", TermsEdges::tenDays);
        Edges.says("each with the warmth of the pendulum and the rate at its end", TermsEdges::warmthOfDay);
        Edges.says("(by the drive behind (3)", TermsEdges::rateOfDay);
        Edges.says("also if the pendulum stands)", TermsEdges::rateOfDayThatStood);
        Edges.says("by how much the sum of the rates changed in it (from the end of the day before, or from time 0)",
                TermsEdges::changeOfDay);
        Edges.says("how many of its hours the pendulum went", TermsEdges::hoursOfDay);
    }

    private static void tenDays() {
        RodGrids x = new RodGrids();
        x.set(1, 1);
        for (int day = 1; day <= 12; day++) {
            x.setShelf(0, 100 + day);
            x.pass(24);
            Edges.whole(x, 16, Math.min(day, 10));
            Check.due("day(0, 0) of " + day, x.day(0, 0), 100L + day);
            Check.due("day(9, 0) of " + day, x.day(9, 0), day < 10 ? Edges.NONE : 91L + day);
            Check.due("day(10, 0) of " + day, x.day(10, 0), Edges.NONE);
        }
        for (int day = 0; day < 10; day++) {
            Check.due("day(" + day + ", 0)", x.day(day, 0), 112L - day);
        }
        x.pass(23);
        Check.due("day(9, 0) an hour before it drops out", x.day(9, 0), 103L);
        x.pass(1);
        Check.due("day(9, 0) when it has dropped out", x.day(9, 0), 104L);
    }

    private static void warmthOfDay() {
        RodGrids x = Edges.bench(Edges::oneRod);
        x.set(1, 1);
        x.pass(23);
        x.setShelf(0, 300);
        x.pass(1);
        x.setShelf(0, 100);
        x.pass(1);
        Check.due("day(0, 0)", x.day(0, 0), 300L);
        // The drive is 168: the loss is floor(41 * 41 * 1.65).
        Check.due("day(0, 1)", x.day(0, 1), -4955L - 2773L);
    }

    private static void rateOfDay() {
        RodGrids x = Edges.bench(Edges::oneRod);
        x.pass(23);
        x.wind();
        x.pass(1);
        // The drive 192 made the hour's rate, the drive 191 makes the day's.
        Check.due("day(0, 1)", x.day(0, 1), -3050L);
        x.wind();
        Check.due("day(0, 1) behind wind()", x.day(0, 1), -3050L);
    }

    private static void rateOfDayThatStood() {
        RodGrids x = Edges.bench(Edges::oneRod);
        x.pass(192);
        Check.due("day(0, 1) of the last that went", x.day(0, 1), -660L);
        x.set(2, 10);
        x.pass(24);
        Check.due("day(0, 1) of one that stood", x.day(0, 1), -165L);
        Check.due("day(1, 1)", x.day(1, 1), -660L);
    }

    private static void changeOfDay() {
        RodGrids x = Edges.bench(Edges::oneRod);
        x.pass(24);
        long first = x.rates();
        Check.due("day(0, 2) from time 0", x.day(0, 2), first);
        x.pass(1);
        long hour = x.rates() - first;
        Check.due("rates() of an hour", hour, -2773L);
        x.pass(23);
        long second = x.rates() - first;
        Check.due("day(0, 2) from the end of the day before", x.day(0, 2), second);
        Check.due("day(1, 2)", x.day(1, 2), first);
        x.pass(144);
        Check.due("day(0, 2) of the arcs 23 to 20", x.day(0, 2), -(872L + 8 * 798 + 8 * 727 + 7 * 660));
        Check.due("day(0, 2) again", x.day(0, 2), x.rates() - sumOfDays(x, 1, 7));
        x.pass(24);
        Check.due("day(0, 2) of one that stood", x.day(0, 2), 0L);
    }

    private static long sumOfDays(RodGrids x, int first, int last) {
        long sum = 0;
        for (int day = first; day <= last; day++) {
            sum += x.day(day, 2);
        }
        return sum;
    }

    private static void hoursOfDay() {
        // It is wound at this hour, so it goes this many hours of the ninth day.
        for (int hours : new int[] {1, 12, 23}) {
            RodGrids x = new RodGrids();
            x.pass(hours);
            x.wind();
            x.pass(216 - hours);
            Check.due("day(0, 3)", x.day(0, 3), (long) hours);
            Check.due("day(1, 3)", x.day(1, 3), 24L);
            x.pass(24);
            Check.due("day(0, 3) of one that stood", x.day(0, 3), 0L);
            x.pass(5);
            x.wind();
            x.pass(19);
            Check.due("day(0, 3) of one that stood 5 hours", x.day(0, 3), 19L);
        }
    }
}
