/** The boundaries of the promises 22 to 26: the questions that change nothing. */
final class WhatIfEdges {
    private WhatIfEdges() {
    }

    static void run() {
        rateAt();
        matchLength();
        bestNut();
        rangeOfRates();
        changeWithin();
    }

    private static void rateAt() {
        Edges.section("Promise 22: rateAt");
        Edges.says("Returns the rate that there would be at another warmth of the pendulum.", () -> {
            Edges.still(Edges::oneRod, "rateAt(300)", x -> x.rateAt(300), -4955 - 3194);
            RodGrids x = Edges.bench(Edges::oneRod);
            x.rateAt(300);
            Edges.whole(x, 3, 200);
        });
        Edges.says("`warmth`: -300 to 600", () -> {
            RodGrids x = Edges.bench(Edges::oneRod);
            // Stretchings of floor(457.24) and floor(-571.55): floor(-19861.57) and floor(24859.56).
            Check.due("rateAt(600)", x.rateAt(600), -19862 - 3194);
            Check.due("rateAt(-300)", x.rateAt(-300), 24859 - 3194);
        });
        Edges.says("Returns the rate.", () -> {
            RodGrids x = Edges.bench(Edges::oneRod);
            Check.due("rateAt(200)", x.rateAt(200), -3194);
            x.turnNut(1);
            Check.due("rateAt(200) with the nut 1", x.rateAt(200), -435 - 3194);
            x.pass(192);
            Check.due("rateAt(200) of one that stands", x.rateAt(200), -435 - 660);
            RodGrids y = new RodGrids();
            y.set(0, 100000);
            Edges.addRods(y, 9, 1, 1000000);
            Check.due("rateAt(0) at the end of the range", y.rateAt(0), -1000000000 - 3194);
        });
        Edges.says("Throws `IllegalArgumentException` if warmth is out of range", () -> {
            for (int warmth : new int[] {-301, 601, Edges.MIN, Edges.MAX}) {
                Edges.refused(Edges::oneRod, "rateAt(" + warmth + ")", Edges.BAD_ARGUMENT, x -> x.rateAt(warmth));
            }
        });
    }

    /** A rod 0 of this stretch, behind it one rod of the stretch 1 that takes part with this balance. */
    private static RodGrids matchable(int stretch, int direction, int others) {
        RodGrids x = new RodGrids();
        x.setStretch(0, stretch);
        x.setStretch(1, 1);
        x.addRod(0, direction, 500);
        int otherDirection = others < 0 ? -1 : 1;
        for (int rest = Math.abs(others); rest > 0; rest -= 1000000) {
            x.addRod(1, otherDirection, Math.min(rest, 1000000));
        }
        return x;
    }

    private static void matchLength() {
        Edges.section("Promise 23: matchLength");
        Edges.says("Returns the length of a rod with which the balance would be nearest to 0.", () -> {
            Edges.still(GridEdges::twoRods, "matchLength(1)", x -> x.matchLength(1), 601632);
            for (int direction = -1; direction <= 1; direction += 2) {
                Check.due("exactly 7", matchable(3, direction, -direction * 21).matchLength(0), 7);
                Check.due("a third above 7", matchable(3, direction, -direction * 22).matchLength(0), 7);
                Check.due("a third below 8", matchable(3, direction, -direction * 23).matchLength(0), 8);
                RodGrids x = matchable(3, direction, -direction * 21);
                x.setLength(0, 7);
                Check.due("matchLength(0) of a matched grid", x.matchLength(0), 7);
            }
        });
        Edges.says("`rod`: number of a rod", () -> {
            RodGrids x = Edges.bench(b -> Edges.addRods(b, 8, 1, 10));
            x.addRod(0, -1, 5);
            Check.due("matchLength(8)", x.matchLength(8), 80);
            // The others are 65 down.
            Check.due("matchLength(0)", x.matchLength(0), 1);
            x.setLength(8, 75);
            Check.due("matchLength(0) of 75 up and 70 down", x.matchLength(0), 5);
            Check.due("matchLength(7) of 75 up and 70 down", x.matchLength(7), 5);
        });
        Edges.says("Returns the length, 1 to 1000000", WhatIfEdges::endsOfMatch);
        Edges.says("of several the least one", WhatIfEdges::leastMatch);
        Edges.says("Throws `IndexOutOfBoundsException` if there is no such rod", () -> {
            for (int rod : new int[] {-1, 2, 9, Edges.MIN, Edges.MAX}) {
                Edges.refused(GridEdges::twoRods, "matchLength(" + rod + ")", Edges.NO_SUCH, x -> x.matchLength(rod));
            }
            Edges.refused(x -> x.set(1, 4), "matchLength(0) of none", Edges.NO_SUCH, x -> x.matchLength(0));
            Edges.refused(GridEdges::nineRods, "matchLength(9) of 9", Edges.NO_SUCH, x -> x.matchLength(9));
        });
    }

    private static void endsOfMatch() {
        Check.due("alone", Edges.bench(Edges::oneRod).matchLength(0), 1);
        for (int direction = -1; direction <= 1; direction += 2) {
            // What the others are, in the direction of the rod, and the length that is due by the stretch 1 and 500.
            int[][] dues = {{8000000, 1, 1}, {1, 1, 1}, {0, 1, 1}, {-1, 1, 1}, {-2, 2, 1}, {-749, 749, 1}, {-751, 751, 2},
                {-999999, 999999, 2000}, {-1000000, 1000000, 2000}, {-1000001, 1000000, 2000}, {-8000000, 1000000, 16000}};
            for (int[] due : dues) {
                Check.due("others " + due[0] + " by the stretch 1", matchable(1, direction, direction * due[0]).matchLength(0), due[1]);
                Check.due("others " + due[0] + " by the stretch 500", matchable(500, direction, direction * due[0]).matchLength(0), due[2]);
            }
        }
        RodGrids x = new RodGrids();
        x.setStretch(0, 500);
        Edges.addRods(x, 8, 1, 1000000);
        x.addRod(1, -1, 5);
        Check.due("others far beyond the ints", x.matchLength(8), 1000000);
        x.setStretch(1, 500);
        Check.due("others far beyond the ints, of the stretch 500", x.matchLength(8), 1000000);
        x.setStretch(1, 1);
        Check.due("others far beyond the ints, of the stretch 1", x.matchLength(8), 1000000);
        Check.due("one of the others", x.matchLength(0), 1);
    }

    private static void leastMatch() {
        for (int direction = -1; direction <= 1; direction += 2) {
            Check.due("7 and 8 alike", matchable(2, direction, -direction * 15).matchLength(0), 7);
            Check.due("1 and 2 alike", matchable(2, direction, -direction * 3).matchLength(0), 1);
            Check.due("0, which is none, and 1 alike", matchable(2, direction, -direction).matchLength(0), 1);
            Check.due("1 and 2 alike by 500", matchable(500, direction, -direction * 750).matchLength(0), 1);
            Check.due("999999 and 1000000 alike", matchable(2, direction, -direction * 1999999).matchLength(0), 999999);
            Check.due("1000000 and 1000001, which is none, alike", matchable(2, direction, -direction * 2000001).matchLength(0), 1000000);
            Check.due("all alike", matchable(0, direction, -direction * 5000).matchLength(0), 1);
            Check.due("all alike, at the other side", matchable(0, direction, direction * 5000).matchLength(0), 1);
        }
    }

    /** What bestNut() answers of one rod of this length, where each turn counts 4320 and there is no loss. */
    private static int bestNutOf(int length) {
        RodGrids x = Edges.bench(Edges::plainRate);
        x.addRod(0, 1, length);
        return x.bestNut();
    }

    private static void bestNut() {
        Edges.section("Promise 24: bestNut");
        Edges.says("Returns the nut with which the rate would be nearest to 0.", () -> {
            Edges.still(Edges::oneRod, "bestNut()", x -> x.bestNut(), -7);
            Check.due("just so", bestNutOf(100000), 0);
            Check.due("4 too long", bestNutOf(100004), 0);
            Check.due("6 too long", bestNutOf(100006), -1);
            Check.due("4 too short", bestNutOf(99996), 0);
            Check.due("6 too short", bestNutOf(99994), 1);
            RodGrids x = Edges.bench(Edges::oneRod);
            x.turnNut(300);
            Check.due("bestNut() from another nut", x.bestNut(), -7);
            x.pass(192);
            // The loss 660 alone: 869 - 660 at -2 and 434 - 660 at -1.
            Check.due("bestNut() by the loss at the drive 0", x.bestNut(), -2);
            RodGrids y = Edges.bench(Edges::oneRod);
            Edges.warmTo(y, 600);
            // 457 longer, which 45.7 turns make up for, and the loss of 3050 another 7.02.
            Check.due("bestNut() in the heat", y.bestNut(), -53);
        });
        Edges.says("Returns the nut, -500 to 500", () -> {
            Check.due("500 just so", bestNutOf(95000), 500);
            Check.due("499 just so", bestNutOf(95010), 499);
            Check.due("501 just so", bestNutOf(94990), 500);
            Check.due("500 not enough", bestNutOf(94999), 500);
            Check.due("500 a little too much", bestNutOf(95001), 500);
            Check.due("far too short", bestNutOf(1), 500);
            Check.due("-500 just so", bestNutOf(105000), -500);
            Check.due("-499 just so", bestNutOf(104990), -499);
            Check.due("-501 just so", bestNutOf(105010), -500);
            Check.due("-500 not enough", bestNutOf(105001), -500);
            Check.due("-500 a little too much", bestNutOf(104999), -500);
            Check.due("far too long", bestNutOf(1000000), -500);
            Check.due("without rods", new RodGrids().bestNut(), 500);
        });
        Edges.says("of several the least one", WhatIfEdges::leastNut);
    }

    private static void leastNut() {
        Check.due("0 and 1 alike", bestNutOf(99995), 0);
        Check.due("-1 and 0 alike", bestNutOf(100005), -1);
        Check.due("499 and 500 alike", bestNutOf(95005), 499);
        Check.due("500 and 501, which is none, alike", bestNutOf(94995), 500);
        Check.due("-500 and -499 alike", bestNutOf(104995), -500);
        Check.due("-501, which is none, and -500 alike", bestNutOf(105005), -500);
        for (int direction = -1; direction <= 1; direction += 2) {
            RodGrids all = Edges.bench(b -> b.set(0, 100000));
            Edges.addRods(all, 9, direction, 1000000);
            Check.due("all alike at the end of the range", all.bestNut(), -500);
        }
        // The rate leaves the range of the rates at 2314814 micrometers too short: there at the nut -500 alone.
        RodGrids some = new RodGrids();
        some.set(0, 100000);
        Edges.addRods(some, 2, -1, 1000000);
        some.addRod(0, -1, 209824);
        Check.due("the least nut alone at the end of the range", some.bestNut(), 500);
        // All but the least nut are at the lower end.
        RodGrids most = new RodGrids();
        most.set(0, 100000);
        Edges.addRods(most, 2, 1, 1000000);
        most.addRod(0, 1, 419814);
        Check.due("all nuts but the least at the end of the range", most.bestNut(), -500);
        // All but the greatest nut are at the upper end.
        RodGrids rest = new RodGrids();
        rest.set(0, 100000);
        Edges.addRods(rest, 2, -1, 1000000);
        rest.addRod(0, -1, 219814);
        Check.due("all nuts but the greatest at the end of the range", rest.bestNut(), 500);
        rest.setLength(2, 219815);
        Check.due("the greatest nut, too", rest.bestNut(), -500);
    }

    private static void rangeOfRates() {
        Edges.section("Promise 25: rangeOfRates");
        Edges.says("Returns the range of the rates from some warmth to another one.", () ->
                Edges.still(Edges::oneRod, "rangeOfRates(100, 300)", x -> x.rangeOfRates(100, 300), 4997 + 4955));
        Edges.says("`low`: -300 to 600", () -> {
            RodGrids x = Edges.bench(Edges::oneRod);
            Check.due("rangeOfRates(-300, -300)", x.rangeOfRates(-300, -300), 0);
            Check.due("rangeOfRates(-300, 200)", x.rangeOfRates(-300, 200), 24859);
            Check.due("rangeOfRates(600, 600)", x.rangeOfRates(600, 600), 0);
        });
        Edges.says("`high`: low to 600", () -> {
            RodGrids x = Edges.bench(Edges::oneRod);
            Check.due("rangeOfRates(200, 600)", x.rangeOfRates(200, 600), 19862);
            Check.due("rangeOfRates(-300, 600)", x.rangeOfRates(-300, 600), 24859 + 19862);
            Check.due("rangeOfRates(7, 7)", x.rangeOfRates(7, 7), 0);
            Check.due("rangeOfRates(7, 8)", x.rangeOfRates(7, 8), 0);
        });
        Edges.says("Returns the greatest minus the least rate at the warmths low, low + 10, and so on",
                WhatIfEdges::warmthsOfRange);
        Edges.says("as far as they are at most high", () -> {
            RodGrids x = Edges.bench(Edges::oneRod);
            Check.due("rangeOfRates(200, 209)", x.rangeOfRates(200, 209), 0);
            // floor(11.43) longer at 210, floor(22.86) at 220: floor(-478.07) and floor(-956.14).
            Check.due("rangeOfRates(200, 210)", x.rangeOfRates(200, 210), 479);
            Check.due("rangeOfRates(200, 219)", x.rangeOfRates(200, 219), 479);
            Check.due("rangeOfRates(200, 220)", x.rangeOfRates(200, 220), 957);
            Check.due("rangeOfRates(591, 600)", x.rangeOfRates(591, 600), 0);
            Check.due("rangeOfRates(590, 600)", x.rangeOfRates(590, 600), x.rateAt(590) - x.rateAt(600));
        });
        Edges.says("Throws `IllegalArgumentException` if an argument is out of range", () -> {
            int[][] wrong = {{-301, 0}, {-301, -301}, {601, 601}, {0, 601}, {600, 601}, {1, 0}, {600, 599}, {-300, -301},
                {Edges.MIN, 0}, {0, Edges.MAX}, {Edges.MAX, Edges.MIN}, {Edges.MIN, Edges.MAX}};
            for (int[] pair : wrong) {
                Edges.refused(Edges::oneRod, "rangeOfRates(" + pair[0] + ", " + pair[1] + ")", Edges.BAD_ARGUMENT,
                        x -> x.rangeOfRates(pair[0], pair[1]));
            }
        });
    }

    private static void warmthsOfRange() {
        // The pendulum gets shorter in the heat: the greatest rate is that of the greatest warmth.
        RodGrids x = Edges.bench(b -> b.addRod(0, -1, 1000000));
        Check.due("rangeOfRates(-300, 600) of one that gains", x.rangeOfRates(-300, 600), x.rateAt(600) - x.rateAt(-300));
        // Nearly matched: the floors alone make the rate go up and down, and neither end is the greatest or least.
        RodGrids y = new RodGrids();
        y.addRod(0, 1, 290000);
        y.addRod(1, -1, 341623);
        y.addRod(0, 1, 310000);
        y.addRod(1, -1, 21534);
        int[][] due = {{-300, 32903428}, {-290, 32903384}, {-280, 32903471}, {600, 32903428}};
        for (int[] pair : due) {
            Check.due("rateAt(" + pair[0] + ")", y.rateAt(pair[0]), pair[1]);
        }
        Check.due("rangeOfRates(-300, 600) of one nearly matched", y.rangeOfRates(-300, 600), 87);
        Check.due("rangeOfRates(-300, -280) of one nearly matched", y.rangeOfRates(-300, -280), 87);
        Check.due("rangeOfRates(-300, -281) of one nearly matched", y.rangeOfRates(-300, -281), 44);
        Check.due("rangeOfRates(-280, 600) of one nearly matched", y.rangeOfRates(-280, 600), 87);
        RodGrids none = new RodGrids();
        Check.due("rangeOfRates(-300, 600) without rods", none.rangeOfRates(-300, 600), 0);
        none.set(0, 100000);
        Edges.addRods(none, 9, 1, 1000000);
        Check.due("rangeOfRates(-300, 600) at the end of the range", none.rangeOfRates(-300, 600), 0);
    }

    private static void lastHour(RodGrids x) {
        Edges.oneRod(x);
        x.pass(191);
    }

    private static void endOfTime(RodGrids x) {
        Edges.oneRod(x);
        Edges.passAll(x, 100000);
        x.wind();
    }

    private static void changeWithin() {
        Edges.section("Promise 26: changeWithin");
        Edges.says("Returns the change of the sum of the rates within some hours", () -> {
            Edges.still(Edges::oneRod, "changeWithin(3)", x -> x.changeWithin(3), -9294L);
            Edges.still(Edges::oneRod, "changeWithin(500)", x -> x.changeWithin(500), -331958L);
            RodGrids x = Edges.bench(Edges::oneRod);
            x.setShelf(0, 300);
            x.set(1, 1);
            Check.due("changeWithin(1) toward a warm shelf", x.changeWithin(1), -4955L - 3194L);
            x.pass(1);
            Check.due("rates()", x.rates(), -4955L - 3194L);
        });
        Edges.says("(also beyond the time 100000)", () -> {
            Edges.still(WhatIfEdges::endOfTime, "changeWithin(3) at 100000", x -> x.changeWithin(3), -9294L);
            Edges.still(WhatIfEdges::endOfTime, "changeWithin(500) at 100000", x -> x.changeWithin(500), -331958L);
        });
        Edges.says("`hours`: 0 to 500", () -> {
            RodGrids x = Edges.bench(Edges::oneRod);
            Check.due("changeWithin(0)", x.changeWithin(0), 0L);
            Check.due("changeWithin(1)", x.changeWithin(1), -3194L);
            Check.due("changeWithin(191)", x.changeWithin(191), -331958L + 660);
            Check.due("changeWithin(192)", x.changeWithin(192), -331958L);
            Check.due("changeWithin(193)", x.changeWithin(193), -331958L);
            Check.due("changeWithin(500)", x.changeWithin(500), -331958L);
        });
        Edges.says("Returns the change.", () -> {
            RodGrids x = Edges.bench(WhatIfEdges::lastHour);
            Check.due("changeWithin(1) at the last hour's drive", x.changeWithin(1), -660L);
            Check.due("changeWithin(2) at the last hour's drive", x.changeWithin(2), -660L);
            x.pass(1);
            Check.due("changeWithin(1) of one that stands", x.changeWithin(1), 0L);
            Check.due("changeWithin(500) of one that stands", x.changeWithin(500), 0L);
            RodGrids y = Edges.bench(b -> b.set(0, 100000));
            Edges.addRods(y, 9, -1, 1000000);
            Check.due("changeWithin(500) beyond the ints", y.changeWithin(500), 192000000000L - 331958L);
        });
        Edges.says("Throws `IllegalArgumentException` if hours is out of range", () -> {
            for (int hours : new int[] {-1, 501, Edges.MIN, Edges.MAX}) {
                Edges.refused(Edges::oneRod, "changeWithin(" + hours + ")", Edges.BAD_ARGUMENT, x -> x.changeWithin(hours));
            }
        });
    }
}
