/** The boundaries of the promises 13 to 21: what is told of rods, metals, shelves, the whole, the log and the mean. */
final class ValueEdges {
    private ValueEdges() {
    }

    static void run() {
        rod();
        stretch();
        shelf();
        whole();
        balance();
        rates();
        balanceBits();
        day();
        meanRate();
    }

    /** Two rods in the cold of -300. */
    private static void coldRods(RodGrids x) {
        GridEdges.twoRods(x);
        Edges.warmTo(x, -300);
    }

    private static void rod() {
        Edges.section("Promise 13: rod");
        Edges.says("Returns a value of a rod.", () -> {
            Edges.still(ValueEdges::coldRods, "rod(0, 4)", x -> x.rod(0, 4), 993428);
            Edges.still(GridEdges::nineRods, "rod(8, 2)", x -> x.rod(8, 2), 1008);
        });
        Edges.says("`rod`: number of a rod", () -> {
            RodGrids x = Edges.bench(GridEdges::nineRods);
            Check.due("rod(0, 2)", x.rod(0, 2), 1000);
            Check.due("rod(8, 2)", x.rod(8, 2), 1008);
        });
        Edges.says("`what`: 0 metal, 1 direction, 2 length, 3 stretching at the warmth of the pendulum, 4 length at it", () -> {
            RodGrids x = Edges.bench(ValueEdges::coldRods);
            // floor(994000 * 115 * -500 / 100000000) is floor(-571.55), floor(300 * 190 * -500 / 100000000) floor(-0.285).
            int[][] due = {{0, 1, 994000, -572, 993428}, {1, -1, 300, -1, 299}};
            for (int rod = 0; rod < 2; rod++) {
                for (int what = 0; what < 5; what++) {
                    Check.due("rod(" + rod + ", " + what + ")", x.rod(rod, what), due[rod][what]);
                }
            }
        });
        Edges.says("Returns that value.", () -> {
            RodGrids x = Edges.bench(GridEdges::twoRods);
            x.setShelf(0, 600);
            Check.due("rod(0, 3) by the warmth of the pendulum, not of the shelf", x.rod(0, 3), 0);
            x.pass(1);
            // At 300: floor(114.31).
            Check.due("rod(0, 3) an hour later", x.rod(0, 3), 114);
            Check.due("rod(0, 4) an hour later", x.rod(0, 4), 994114);
        });
        Edges.says("Throws `IndexOutOfBoundsException` if there is no such rod", () -> {
            for (int rod : new int[] {-1, 2, 9, Edges.MIN, Edges.MAX}) {
                Edges.refused(GridEdges::twoRods, "rod(" + rod + ", 0)", Edges.NO_SUCH, x -> x.rod(rod, 0));
                Edges.refused(GridEdges::twoRods, "rod(" + rod + ", 5)", Edges.NO_SUCH, x -> x.rod(rod, 5));
            }
            Edges.refused(x -> x.set(1, 4), "rod(0, 0) of none", Edges.NO_SUCH, x -> x.rod(0, 0));
            Edges.refused(GridEdges::nineRods, "rod(9, -1) of 9", Edges.NO_SUCH, x -> x.rod(9, -1));
        });
        Edges.says("Throws `IllegalArgumentException` if what is out of range", () -> {
            for (int what : new int[] {-1, 5, Edges.MIN, Edges.MAX}) {
                Edges.refused(GridEdges::twoRods, "rod(1, " + what + ")", Edges.BAD_ARGUMENT, x -> x.rod(1, what));
            }
        });
    }

    private static void stretch() {
        Edges.section("Promise 14: stretch");
        Edges.says("Returns the stretch of a metal.", () ->
                Edges.still(GridEdges::sixMetals, "stretch(5)", x -> x.stretch(5), 400));
        Edges.says("`metal`: number of a metal", () -> {
            RodGrids x = Edges.bench(GridEdges::sixMetals);
            int[] due = {115, 190, 100, 200, 300, 400};
            for (int metal = 0; metal < 6; metal++) {
                Check.due("stretch(" + metal + ")", x.stretch(metal), due[metal]);
            }
        });
        Edges.says("Returns the stretch.", () -> {
            RodGrids x = new RodGrids();
            x.setStretch(1, 0);
            Check.due("stretch(1)", x.stretch(1), 0);
            x.setStretch(1, 500);
            Check.due("stretch(1)", x.stretch(1), 500);
        });
        Edges.says("Throws `IndexOutOfBoundsException` if there is no such metal", () -> {
            for (int metal : new int[] {-1, 2, 6, Edges.MIN, Edges.MAX}) {
                Edges.refused(Edges::oneRod, "stretch(" + metal + ")", Edges.NO_SUCH, x -> x.stretch(metal));
            }
            Edges.refused(GridEdges::sixMetals, "stretch(6) of 6", Edges.NO_SUCH, x -> x.stretch(6));
        });
    }

    private static void shelf() {
        Edges.section("Promise 15: shelf");
        Edges.says("Returns the warmth of a shelf.", () ->
                Edges.still(x -> x.setShelf(4, -300), "shelf(4)", x -> x.shelf(4), -300));
        Edges.says("`shelf`: 0 to 4", () -> {
            RodGrids x = new RodGrids();
            x.setShelf(0, 10);
            x.setShelf(4, 14);
            Check.due("shelf(0)", x.shelf(0), 10);
            Check.due("shelf(4)", x.shelf(4), 14);
        });
        Edges.says("Returns the warmth.", () -> {
            RodGrids x = new RodGrids();
            x.setShelf(2, 600);
            x.hang(2);
            x.pass(1);
            Check.due("shelf(2), on which it hangs", x.shelf(2), 600);
            Check.due("shelf(1)", x.shelf(1), 200);
        });
        Edges.says("Throws `IndexOutOfBoundsException` if there is no such shelf", () -> {
            for (int shelf : new int[] {-1, 5, Edges.MIN, Edges.MAX}) {
                Edges.refused(Edges::oneRod, "shelf(" + shelf + ")", Edges.NO_SUCH, x -> x.shelf(shelf));
            }
        });
    }

    private static void whole() {
        Edges.section("Promise 16: whole");
        Edges.says("Returns a value of the whole.", () -> {
            for (int what = 0; what < 18; what++) {
                int number = what;
                Edges.Setup setup = b -> Check.type(b, "wind;");
                Edges.still(setup, "whole(" + what + ")", x -> x.whole(number), Edges.bench(setup).whole(what));
            }
        });
        Edges.says("0 metals, 1 rods, 2 shelf, 3 warmth of the pendulum, 4 nut, 5 drive, 6 arc, 7 loss by the arc, "
                + "8 length of the pendulum, 9 rate, 10 time, 11 hours that it went, 12 hours that it stood, "
                + "13 to 15 the settings 0 to 2, 16 days in the log, 17 length of the command text", ValueEdges::eachOfTheWhole);
        Edges.says("Returns that value.", ValueEdges::endsOfTheWhole);
        Edges.says("Throws `IllegalArgumentException` if what is out of range", () -> {
            for (int what : new int[] {-1, 18, Edges.MIN, Edges.MAX}) {
                Edges.refused(Edges::oneRod, "whole(" + what + ")", Edges.BAD_ARGUMENT, x -> x.whole(what));
            }
        });
    }

    private static void eachOfTheWhole() {
        RodGrids x = new RodGrids();
        x.addMetal(9);
        Edges.addRods(x, 4, 1, 250000);
        x.setShelf(3, 250);
        x.hang(3);
        x.turnNut(-7);
        x.set(0, 993000);
        x.set(1, 2);
        x.set(2, 11);
        x.pass(300);
        Check.type(x, "wind;");
        // At 250 each rod has 14 more: 1000056 - 70. The rate is floor(-43200000 * 6986 / 993000) - floor(121 * 1.65).
        int[] due = {3, 4, 3, 250, -7, 0, 11, 199, 999986, -303923 - 199, 300, 192, 108, 993000, 2, 11, 10, 5};
        for (int what = 0; what < 18; what++) {
            Edges.whole(x, what, due[what]);
        }
    }

    private static void endsOfTheWhole() {
        RodGrids most = Edges.bench(GridEdges::sixMetals);
        most.setStretch(0, 500);
        Edges.addRods(most, 9, 1, 1000000);
        most.hang(4);
        most.setShelf(4, 600);
        most.turnNut(500);
        most.set(0, 100000);
        most.set(1, 1);
        most.set(2, 100);
        Edges.passAll(most, 100000);
        most.wind();
        Check.type(most, "wind;".repeat(30));
        int[] due = {6, 9, 4, 600, 500, 192, 124, 25370, 9023000, -1000025370, 100000, 192, 99808, 100000, 1, 100, 10, 150};
        for (int what = 0; what < 18; what++) {
            Edges.whole(most, what, due[what]);
        }
        RodGrids least = new RodGrids();
        least.setStretch(0, 500);
        Edges.addRods(least, 9, -1, 1000000);
        least.setShelf(0, -300);
        least.turnNut(-500);
        least.set(0, 2000000);
        least.set(1, 24);
        least.set(2, 0);
        least.pass(500);
        // 9 * (1000000 - 2500) + 5000 up: floor(21.6 * 10982500).
        int[] then = {2, 9, 0, -300, -500, 0, 0, 0, -8982500, 237222000, 500, 192, 308, 2000000, 24, 0, 10, 0};
        for (int what = 0; what < 18; what++) {
            Edges.whole(least, what, then[what]);
        }
    }

    private static void balance() {
        Edges.section("Promise 17: balance");
        Edges.says("Returns the balance of the grid.", () ->
                Edges.still(GridEdges::twoRods, "balance()", x -> x.balance(), 994000L * 115 - 300L * 190));
        Edges.says("Returns the balance.", () -> {
            RodGrids x = new RodGrids();
            Check.due("balance() without rods", x.balance(), 0L);
            x.setStretch(0, 500);
            // 4 rods fit an int, 5 do not.
            Edges.addRods(x, 4, 1, 1000000);
            Check.due("balance() of 4", x.balance(), 2000000000L);
            Edges.addRods(x, 5, 1, 1000000);
            Check.due("balance() of 9", x.balance(), 4500000000L);
            Edges.warmTo(x, 600);
            Check.due("balance() in the heat", x.balance(), 4500000000L);
            x.turnNut(500);
            Check.due("balance() with the nut", x.balance(), 4500000000L);
            x.setStretch(0, 0);
            Check.due("balance() without a stretch", x.balance(), 0L);
        });
    }

    private static void rates() {
        Edges.section("Promise 18: rates");
        Edges.says("Returns the sum of the rates.", () ->
                Edges.still(x -> x.pass(2), "rates()", x -> x.rates(), 86400000L - 3194 - 3050));
        Edges.says("Returns the sum.", () -> {
            RodGrids x = new RodGrids();
            Check.due("rates() at time 0", x.rates(), 0L);
            x.set(0, 100000);
            x.set(2, 0);
            Edges.addRods(x, 9, -1, 1000000);
            x.pass(1);
            Check.due("rates() of an hour", x.rates(), 1000000000L - 950);
            x.pass(1);
            x.pass(1);
            // The arc 23 loses floor(872.85).
            Check.due("rates() beyond the ints", x.rates(), 3000000000L - 950 - 2 * 872);
            RodGrids y = new RodGrids();
            y.set(0, 100000);
            y.set(2, 0);
            Edges.addRods(y, 9, 1, 1000000);
            y.pass(3);
            Check.due("rates() below the ints", y.rates(), -3000000000L - 950 - 2 * 872);
        });
    }

    private static void balanceBits() {
        Edges.section("Promise 19: balanceBits");
        Edges.says("Returns the balance for the whole length of the rods, as the bits of a float.", () ->
                Edges.still(GridEdges::twoRods, "balanceBits()", x -> x.balanceBits(),
                        Float.floatToIntBits(114253000f / 994300f)));
        Edges.says("Returns the bits, as Float.floatToIntBits gives them, of the balance, converted to float, divided by",
                ValueEdges::bitsOfQuotients);
        Edges.says("the sum of the lengths of all rods (whatever their directions are), converted to float", () -> {
            RodGrids x = new RodGrids();
            x.addRod(0, 1, 100);
            x.addRod(1, -1, 100);
            Check.due("balanceBits() of -7500 / 200", x.balanceBits(), Float.floatToIntBits(-37.5f));
            RodGrids y = new RodGrids();
            Edges.addRods(y, 2, -1, 1000000);
            Check.due("balanceBits() of -115", y.balanceBits(), Float.floatToIntBits(-115f));
            Edges.warmTo(y, 600);
            Check.due("balanceBits() in the heat", y.balanceBits(), Float.floatToIntBits(-115f));
        });
        Edges.says("the bits of 0.0f without rods", () -> {
            RodGrids x = new RodGrids();
            Check.due("balanceBits() without rods", x.balanceBits(), 0);
            x.addRod(0, -1, 5);
            Check.due("balanceBits() of -115", x.balanceBits(), Float.floatToIntBits(-115f));
            x.setStretch(0, 0);
            Check.due("balanceBits() of 0", x.balanceBits(), 0);
            x.removeRod(0);
            Check.due("balanceBits() when the last is removed", x.balanceBits(), 0);
        });
    }

    private static void bitsOfQuotients() {
        for (int stretch = 1; stretch <= 500; stretch++) {
            RodGrids x = new RodGrids();
            x.setStretch(0, stretch);
            x.addRod(0, stretch % 2 == 0 ? 1 : -1, 1000000 - stretch);
            x.addRod(1, -1, 1000 * stretch);
            Check.due("balanceBits() by the stretch " + stretch, x.balanceBits(),
                    Float.floatToIntBits((float) x.balance() / (float) (1000000 + 999 * stretch)));
        }
        for (int direction = -1; direction <= 1; direction += 2) {
            RodGrids least = new RodGrids();
            least.setStretch(0, 0);
            least.setStretch(1, 1);
            Edges.addRods(least, 8, 1, 1000000);
            least.addRod(1, direction, 1);
            Check.due("balanceBits() of the least", least.balanceBits(), Float.floatToIntBits(direction / 8000001f));
            RodGrids most = new RodGrids();
            most.setStretch(0, 500);
            Edges.addRods(most, 9, direction, 1000000);
            Check.due("balanceBits() of the most", most.balanceBits(), Float.floatToIntBits((float) (direction * 4500000000L) / 9000000f));
        }
        for (int power = 1; power <= 256; power *= 2) {
            RodGrids whole = new RodGrids();
            whole.setStretch(0, power);
            whole.addRod(0, 1, 7);
            Check.due("balanceBits() of " + power, whole.balanceBits(), Float.floatToIntBits(power));
            RodGrids part = new RodGrids();
            part.setStretch(0, 1);
            part.setStretch(1, 0);
            part.addRod(0, -1, 1);
            part.addRod(1, 1, 2 * power - 1);
            Check.due("balanceBits() of -1 / " + 2 * power, part.balanceBits(), Float.floatToIntBits(-0.5f / power));
        }
        // 257 * 65281 is 16777217, which no float is: the balance is rounded before it is divided.
        RodGrids x = new RodGrids();
        x.setStretch(0, 257);
        x.addRod(0, 1, 65281);
        Check.due("balanceBits() of a rounded balance", x.balanceBits(), Float.floatToIntBits(16777216f / 65281f));
        Check.due("which is not 257", x.balanceBits() != Float.floatToIntBits(257f), true);
    }

    private static void day() {
        Edges.section("Promise 20: day");
        Edges.says("Returns a value of a day of the log.", () -> {
            Edges.still(ValueEdges::elevenDays, "day(0, 0)", x -> x.day(0, 0), 111L);
            Edges.still(ValueEdges::elevenDays, "day(9, 3)", x -> x.day(9, 3), 24L);
        });
        Edges.says("`day`: 0 for the latest one, and so on", () -> {
            RodGrids x = Edges.bench(ValueEdges::elevenDays);
            for (int day = 0; day < 10; day++) {
                Check.due("day(" + day + ", 0)", x.day(day, 0), 111L - day);
            }
        });
        Edges.says("`what`: 0 warmth, 1 rate, 2 change of the sum of the rates, 3 hours that it went", () -> {
            RodGrids x = Edges.bench(Edges::oneRod);
            x.pass(12);
            x.wind();
            x.pass(204);
            // The ninth day: 12 hours, of the arcs 21 (drive 12 to 8) and 20.
            long[] due = {200, -660, -5L * 727 - 7L * 660, 12};
            for (int what = 0; what < 4; what++) {
                Check.due("day(0, " + what + ")", x.day(0, what), due[what]);
            }
        });
        Edges.says("Returns that value; NONE if there are not so many.", ValueEdges::noneOfDays);
        Edges.says("Throws `IllegalArgumentException` if day is negative, or what is out of range", () -> {
            int[][] wrong = {{-1, 0}, {-1, 3}, {Edges.MIN, 0}, {0, -1}, {0, 4}, {0, Edges.MIN}, {0, Edges.MAX}, {9, 4},
                {10, 4}, {10, -1}, {Edges.MAX, 4}, {-1, -1}, {-1, 4}};
            for (int[] pair : wrong) {
                String call = "day(" + pair[0] + ", " + pair[1] + ")";
                Edges.refused(Edges::oneRod, call, Edges.BAD_ARGUMENT, x -> x.day(pair[0], pair[1]));
                Edges.refused(ValueEdges::elevenDays, call, Edges.BAD_ARGUMENT, x -> x.day(pair[0], pair[1]));
            }
        });
    }

    /** Eleven days, of which the n-th ends at the warmth 100 + n. */
    private static void elevenDays(RodGrids x) {
        x.set(1, 1);
        for (int day = 1; day <= 11; day++) {
            x.setShelf(0, 100 + day);
            x.wind();
            x.pass(24);
        }
    }

    private static void noneOfDays() {
        RodGrids x = new RodGrids();
        for (int days = 0; days < 12; days++) {
            int there = Math.min(days, 10);
            for (int what = 0; what < 4; what++) {
                Check.due("day behind the last of " + days, x.day(there, what), Edges.NONE);
                Check.due("day(MAX, " + what + ")", x.day(Edges.MAX, what), Edges.NONE);
                if (there > 0) {
                    Check.due("day that is the last", x.day(there - 1, what) != Edges.NONE, true);
                }
            }
            x.pass(24);
        }
    }

    private static void meanRate() {
        Edges.section("Promise 21: meanRate");
        Edges.says("Returns the mean rate of the hours that it went.", () ->
                Edges.still(ValueEdges::threeHours, "meanRate()", x -> x.meanRate(), -9294.0 / 3.0));
        Edges.says("Returns the sum of the rates, converted to double, divided by the hours that it went, converted to double",
                ValueEdges::means);
        Edges.says("0.0 if there are none", () -> {
            RodGrids x = Edges.bench(Edges::oneRod);
            Check.due("meanRate() at time 0", (Object) x.meanRate(), (Object) 0.0);
            x.pass(1);
            Check.due("meanRate() of an hour", (Object) x.meanRate(), (Object) (-3194.0));
            x.undo();
            Check.due("meanRate() behind undo", (Object) x.meanRate(), (Object) 0.0);
        });
    }

    private static void threeHours(RodGrids x) {
        Edges.oneRod(x);
        x.pass(3);
    }

    private static void means() {
        RodGrids x = Edges.bench(Edges::oneRod);
        x.pass(192);
        Check.due("meanRate() of 192", (Object) x.meanRate(), (Object) (-331958.0 / 192.0));
        x.pass(500);
        Check.due("meanRate() of one that stood", (Object) x.meanRate(), (Object) (-331958.0 / 192.0));
        // floor(43200000 * 73 / 987351) is the loss at first, 3194: a rate of 0.
        RodGrids y = Edges.bench(b -> b.addRod(0, 1, 987278));
        y.set(0, 987351);
        Edges.whole(y, 9, 0);
        Check.due("pass(1) with the rate 0", y.pass(1), 0);
        Check.due("meanRate() of 0", (Object) y.meanRate(), (Object) 0.0);
        RodGrids z = Edges.bench(b -> Edges.addRods(b, 9, -1, 1000000));
        z.set(0, 100000);
        z.pass(192);
        Check.due("meanRate() of a sum beyond the ints", (Object) z.meanRate(), (Object) (191999668042.0 / 192.0));
    }
}
