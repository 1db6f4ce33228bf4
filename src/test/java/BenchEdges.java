/** The boundaries of the promises 7 to 12: shelves, the nut, the drive, settings and hours. */
final class BenchEdges {
    private BenchEdges() {
    }

    static void run() {
        setShelf();
        hang();
        turnNut();
        wind();
        set();
        pass();
    }

    private static void setShelf() {
        Edges.section("Promise 7: setShelf");
        Edges.says("Sets the warmth of a shelf.", () -> {
            RodGrids x = new RodGrids();
            x.setShelf(2, 77);
            for (int shelf = 0; shelf < 5; shelf++) {
                Check.due("shelf(" + shelf + ")", x.shelf(shelf), shelf == 2 ? 77 : 200);
            }
            Edges.whole(x, 3, 200);
        });
        Edges.says("Undoable.", () -> {
            Edges.undoable(Edges::oneRod, "setShelf(0, 300)", x -> x.setShelf(0, 300), 200);
            Edges.undoable(Edges::oneRod, "setShelf(4, 200)", x -> x.setShelf(4, 200), 200);
        });
        Edges.says("`shelf`: 0 to 4", () -> {
            RodGrids x = new RodGrids();
            Check.due("setShelf(0, 1)", x.setShelf(0, 1), 200);
            Check.due("setShelf(4, 2)", x.setShelf(4, 2), 200);
            Check.due("shelf(0)", x.shelf(0), 1);
            Check.due("shelf(4)", x.shelf(4), 2);
        });
        Edges.says("`warmth`: -300 to 600", () -> {
            RodGrids x = new RodGrids();
            Check.due("setShelf(1, -300)", x.setShelf(1, -300), 200);
            Check.due("shelf(1)", x.shelf(1), -300);
            Check.due("setShelf(1, 600)", x.setShelf(1, 600), -300);
            Check.due("shelf(1)", x.shelf(1), 600);
        });
        Edges.says("Returns the previous warmth.", () -> {
            RodGrids x = new RodGrids();
            Check.due("setShelf(3, -5)", x.setShelf(3, -5), 200);
            Check.due("setShelf(3, 8)", x.setShelf(3, 8), -5);
            Check.due("setShelf(3, 8) again", x.setShelf(3, 8), 8);
        });
        Edges.says("Throws `IndexOutOfBoundsException` if there is no such shelf", () -> {
            for (int shelf : new int[] {-1, 5, Edges.MIN, Edges.MAX}) {
                Edges.refused(Edges::oneRod, "setShelf(" + shelf + ", 5)", Edges.NO_SUCH, x -> x.setShelf(shelf, 5));
                Edges.refused(Edges::oneRod, "setShelf(" + shelf + ", 601)", Edges.NO_SUCH, x -> x.setShelf(shelf, 601));
                Edges.refused(Edges::oneRod, "setShelf(" + shelf + ", -301)", Edges.NO_SUCH, x -> x.setShelf(shelf, -301));
            }
        });
        Edges.says("Throws `IllegalArgumentException` if warmth is out of range", () -> {
            for (int warmth : new int[] {-301, 601, Edges.MIN, Edges.MAX}) {
                Edges.refused(Edges::oneRod, "setShelf(0, " + warmth + ")", Edges.BAD_ARGUMENT, x -> x.setShelf(0, warmth));
                Edges.refused(Edges::oneRod, "setShelf(4, " + warmth + ")", Edges.BAD_ARGUMENT, x -> x.setShelf(4, warmth));
            }
        });
    }

    private static void hang() {
        Edges.section("Promise 8: hang");
        Edges.says("Hangs the pendulum on a shelf.", () -> {
            RodGrids x = new RodGrids();
            x.setShelf(3, 300);
            x.hang(3);
            Edges.whole(x, 2, 3);
            Edges.whole(x, 3, 200);
            x.pass(1);
            Edges.whole(x, 3, 225);
            x.hang(0);
            x.pass(1);
            Edges.whole(x, 3, 218);
        });
        Edges.says("Undoable.", () -> {
            Edges.undoable(Edges::oneRod, "hang(4)", x -> x.hang(4), 0);
            Edges.undoable(Edges::oneRod, "hang(0) from 0", x -> x.hang(0), 0);
        });
        Edges.says("`shelf`: 0 to 4", () -> {
            RodGrids x = new RodGrids();
            Check.due("hang(4)", x.hang(4), 0);
            Edges.whole(x, 2, 4);
            Check.due("hang(0)", x.hang(0), 4);
            Edges.whole(x, 2, 0);
        });
        Edges.says("Returns the previous shelf.", () -> {
            RodGrids x = new RodGrids();
            Check.due("hang(3)", x.hang(3), 0);
            Check.due("hang(1)", x.hang(1), 3);
            Check.due("hang(1) again", x.hang(1), 1);
        });
        Edges.says("Throws `IndexOutOfBoundsException` if there is no such shelf", () -> {
            for (int shelf : new int[] {-1, 5, Edges.MIN, Edges.MAX}) {
                Edges.refused(Edges::oneRod, "hang(" + shelf + ")", Edges.NO_SUCH, x -> x.hang(shelf));
            }
        });
    }

    private static void turnNut() {
        Edges.section("Promise 9: turnNut");
        Edges.says("Turns the nut.", () -> {
            RodGrids x = Edges.bench(Edges::oneRod);
            x.turnNut(7);
            Edges.whole(x, 4, 7);
            Edges.whole(x, 8, 994070);
            x.turnNut(-10);
            Edges.whole(x, 4, -3);
            Edges.whole(x, 8, 993970);
        });
        Edges.says("Undoable.", () -> {
            Edges.undoable(Edges::oneRod, "turnNut(33)", x -> x.turnNut(33), 33);
            Edges.undoable(Edges::oneRod, "turnNut(0)", x -> x.turnNut(0), 0);
            Edges.undoable(x -> x.turnNut(-500), "turnNut(1000) at -500", x -> x.turnNut(1000), 500);
        });
        Edges.says("`by`: -1000 to 1000", () -> {
            RodGrids x = Edges.bench(b -> b.turnNut(-500));
            Check.due("turnNut(1000) at -500", x.turnNut(1000), 500);
            Check.due("turnNut(-1000) at 500", x.turnNut(-1000), -500);
        });
        Edges.says("Returns the nut then.", () -> {
            RodGrids x = new RodGrids();
            Check.due("turnNut(20)", x.turnNut(20), 20);
            Check.due("turnNut(-50)", x.turnNut(-50), -30);
            Check.due("turnNut(0)", x.turnNut(0), -30);
        });
        Edges.says("Throws `IllegalArgumentException` if by is out of range", () -> {
            for (int by : new int[] {-1001, 1001, Edges.MIN, Edges.MAX}) {
                for (int nut : new int[] {-500, 0, 500}) {
                    Edges.refused(x -> x.turnNut(nut), "turnNut(" + by + ") at " + nut, Edges.BAD_ARGUMENT, x -> x.turnNut(by));
                }
            }
        });
        Edges.says("Throws `IllegalStateException` if the nut would be below -500 or above 500", BenchEdges::nutBeyond);
    }

    private static void nutBeyond() {
        int[][] nutsAndTurns = {{0, 501}, {0, -501}, {0, 1000}, {0, -1000}, {500, 1}, {-500, -1}, {499, 2}, {-499, -2},
            {499, -1000}, {-499, 1000}, {500, 1000}, {-500, -1000}};
        for (int[] pair : nutsAndTurns) {
            Edges.refused(x -> x.turnNut(pair[0]), "turnNut(" + pair[1] + ") at " + pair[0], Edges.BAD_STATE,
                    x -> x.turnNut(pair[1]));
        }
        int[][] fits = {{0, 500}, {0, -500}, {499, 1}, {-499, -1}, {499, -999}, {-499, 999}};
        for (int[] pair : fits) {
            RodGrids x = Edges.bench(b -> b.turnNut(pair[0]));
            Check.due("turnNut(" + pair[1] + ") at " + pair[0], x.turnNut(pair[1]), pair[0] + pair[1]);
        }
    }

    private static void wind() {
        Edges.section("Promise 10: wind");
        Edges.says("Winds the drive up: it becomes 192.", () -> {
            for (int hours : new int[] {0, 1, 191, 192, 193}) {
                RodGrids x = new RodGrids();
                Edges.passAll(x, hours);
                x.wind();
                Edges.whole(x, 5, 192);
                Edges.whole(x, 6, 44);
                Edges.whole(x, 10, hours);
            }
        });
        Edges.says("Undoable.", () -> {
            Edges.undoable(Edges::oneRod, "wind() at 192", x -> x.wind(), 192);
            Edges.undoable(x -> x.pass(100), "wind() at 92", x -> x.wind(), 92);
            Edges.undoable(x -> x.pass(300), "wind() at 0", x -> x.wind(), 0);
        });
        Edges.says("Returns the drive that it had.", () -> {
            RodGrids x = new RodGrids();
            Check.due("wind() at first", x.wind(), 192);
            x.pass(1);
            Check.due("wind() an hour later", x.wind(), 191);
            x.pass(191);
            Check.due("wind() at the last hour", x.wind(), 1);
            x.pass(192);
            Check.due("wind() when it runs down", x.wind(), 0);
            x.pass(300);
            Check.due("wind() of one that stood", x.wind(), 0);
        });
    }

    private static void set() {
        Edges.section("Promise 11: set");
        Edges.says("Sets a setting.", () -> {
            int[][] values = {{0, 500000}, {1, 7}, {2, 33}};
            for (int[] pair : values) {
                RodGrids x = new RodGrids();
                x.set(pair[0], pair[1]);
                int[] due = {994000, 4, 20};
                due[pair[0]] = pair[1];
                for (int what = 0; what < 3; what++) {
                    Edges.whole(x, 13 + what, due[what]);
                }
            }
        });
        Edges.says("Undoable.", () -> {
            Edges.undoable(Edges::oneRod, "set(0, 100000)", x -> x.set(0, 100000), 994000);
            Edges.undoable(Edges::oneRod, "set(1, 24)", x -> x.set(1, 24), 4);
            Edges.undoable(Edges::oneRod, "set(2, 100)", x -> x.set(2, 100), 20);
            Edges.undoable(Edges::oneRod, "set(2, 20)", x -> x.set(2, 20), 20);
        });
        Edges.says("`what`: 0 nominal length, 1 lag, 2 rest arc", () -> {
            RodGrids x = Edges.bench(Edges::oneRod);
            x.setShelf(0, 210);
            x.set(2, 0);
            Edges.whole(x, 6, 24);
            x.set(1, 10);
            x.pass(1);
            Edges.whole(x, 3, 201);
            x.set(0, 994001);
            // At 201 the rod is longer by floor(1.14).
            Edges.whole(x, 9, -x.whole(7));
        });
        Edges.says("`value`: the new value, in its range", () -> {
            int[][] ranges = {{0, 100000, 2000000, 994000}, {1, 1, 24, 4}, {2, 0, 100, 20}};
            for (int[] range : ranges) {
                RodGrids x = new RodGrids();
                Check.due("set to the least", x.set(range[0], range[1]), range[3]);
                Edges.whole(x, 13 + range[0], range[1]);
                Check.due("set to the most", x.set(range[0], range[2]), range[1]);
                Edges.whole(x, 13 + range[0], range[2]);
            }
        });
        Edges.says("Returns the previous value.", () -> {
            RodGrids x = new RodGrids();
            Check.due("set(0, 200000)", x.set(0, 200000), 994000);
            Check.due("set(1, 2)", x.set(1, 2), 4);
            Check.due("set(2, 3)", x.set(2, 3), 20);
            Check.due("set(0, 200000) again", x.set(0, 200000), 200000);
            Check.due("set(1, 5)", x.set(1, 5), 2);
            Check.due("set(2, 6)", x.set(2, 6), 3);
        });
        Edges.says("Throws `IllegalArgumentException` if what or value is out of range", BenchEdges::wrongSettings);
    }

    private static void wrongSettings() {
        int[][] wrong = {{0, 99999}, {0, 2000001}, {1, 0}, {1, 25}, {2, -1}, {2, 101}, {-1, 5}, {3, 5}, {-1, 100000},
            {3, 100000}, {Edges.MIN, 5}, {Edges.MAX, 5}, {0, Edges.MIN}, {0, Edges.MAX}, {1, Edges.MIN}, {1, Edges.MAX},
            {2, Edges.MIN}, {2, Edges.MAX}};
        for (int[] pair : wrong) {
            Edges.refused(Edges::oneRod, "set(" + pair[0] + ", " + pair[1] + ")", Edges.BAD_ARGUMENT,
                    x -> x.set(pair[0], pair[1]));
        }
    }

    private static void pass() {
        Edges.section("Promise 12: pass");
        Edges.says("Lets hours pass.", () -> {
            RodGrids x = Edges.bench(Edges::oneRod);
            x.setShelf(0, 333);
            RodGrids y = Edges.bench(Edges::oneRod);
            y.setShelf(0, 333);
            x.pass(50);
            for (int hour = 0; hour < 50; hour++) {
                y.pass(1);
            }
            Edges.whole(x, 10, 50);
            Edges.whole(y, 10, 50);
            Check.due("rates() of 50 hours at once and one by one", x.rates(), y.rates());
            Check.due("day(0, 1)", x.day(0, 1), y.day(0, 1));
            Check.due("day(1, 2)", x.day(1, 2), y.day(1, 2));
            Edges.whole(x, 3, y.whole(3));
        });
        Edges.says("Undoable.", () -> {
            Edges.undoable(Edges::oneRod, "pass(1)", x -> x.pass(1), -134);
            // All 192 hours lose 331958.
            Edges.undoable(Edges::oneRod, "pass(500)", x -> x.pass(500), -13832);
            // The 11th day that ends drops the first one out, which comes back.
            Edges.undoable(BenchEdges::elevenDaysButAnHour, "pass(1)", x -> x.pass(1), -13832);
        });
        Edges.says("`hours`: 1 to 500", () -> {
            RodGrids x = new RodGrids();
            x.pass(1);
            Edges.whole(x, 10, 1);
            x.pass(500);
            Edges.whole(x, 10, 501);
        });
        Edges.says("Returns the error of the clock then", () -> {
            RodGrids x = Edges.bench(Edges::oneRod);
            Check.due("pass(1)", x.pass(1), -134);
            // -3194 - 2 * 3050 is -9294, of which the 24th part is -387.25.
            Check.due("pass(2)", x.pass(2), -388);
            x.pass(189);
            Check.due("pass(1) of one that stands", x.pass(1), (int) Math.floorDiv(x.rates(), 24L));
        });
        Edges.says("brought into the range from -1999999999 to 2000000000", BenchEdges::rangeOfErrors);
        Edges.says("Throws `IllegalArgumentException` if hours is out of range", () -> {
            for (int hours : new int[] {0, -1, 501, Edges.MIN, Edges.MAX}) {
                Edges.refused(Edges::oneRod, "pass(" + hours + ")", Edges.BAD_ARGUMENT, x -> x.pass(hours));
            }
            for (int hours : new int[] {0, -1, 501, Edges.MAX}) {
                Edges.refused(x -> Edges.passAll(x, 100000), "pass(" + hours + ") at 100000", Edges.BAD_ARGUMENT,
                        x -> x.pass(hours));
            }
        });
        Edges.says("Throws `IllegalStateException` if the time would be greater than 100000", BenchEdges::endOfTime);
    }

    private static void elevenDaysButAnHour(RodGrids x) {
        Edges.oneRod(x);
        x.pass(263);
    }

    /** What the last of 49 hours answers, 48 of them at the end of the range of the rates. */
    private static void errorDue(int direction, int length, int nominal, long sum, int error) {
        RodGrids x = new RodGrids();
        x.set(0, 100000);
        x.set(2, 0);
        Edges.addRods(x, 9, -direction, 1000000);
        x.pass(48);
        for (int rod = 8; rod >= 0; rod--) {
            x.removeRod(rod);
        }
        x.addRod(0, 1, length);
        x.set(0, nominal);
        Check.due("error of " + sum, x.pass(1), error);
        Check.due("rates()", x.rates(), sum);
    }

    private static void rangeOfErrors() {
        // The lengths and nominal lengths were found by trying: they make the last hour's rate just so.
        errorDue(1, 999011, 999808, 47999999999L, 1999999999);
        errorDue(1, 998982, 999779, 48000000000L, 2000000000);
        errorDue(1, 999567, 1000365, 48000000023L, 2000000000);
        errorDue(1, 999538, 1000336, 48000000024L, 2000000000);
        errorDue(-1, 998842, 999640, -47999999952L, -1999999998);
        errorDue(-1, 998871, 999669, -47999999953L, -1999999999);
        errorDue(-1, 999538, 1000336, -47999999976L, -1999999999);
        errorDue(-1, 999567, 1000365, -47999999977L, -1999999999);
        errorDue(-1, 998982, 999779, -48000000000L, -1999999999);
        farBeyond(1, 2000000000);
        farBeyond(-1, -1999999999);
    }

    private static void farBeyond(int direction, int error) {
        RodGrids x = new RodGrids();
        x.set(0, 100000);
        Edges.addRods(x, 9, -direction, 1000000);
        Check.due("error of 192 hours at the end of the range", x.pass(192), error);
        Check.due("rates() beyond the ints", x.rates() * direction > 191000000000L, true);
    }

    private static void endOfTime() {
        Edges.Setup[] late = {x -> Edges.passAll(x, 100000), x -> Edges.passAll(x, 99999), x -> Edges.passAll(x, 99501)};
        int[] tooMany = {1, 2, 500};
        for (int i = 0; i < late.length; i++) {
            int hours = tooMany[i];
            Edges.refused(late[i], "pass(" + hours + ")", Edges.BAD_STATE, x -> x.pass(hours));
            if (hours > 1) {
                RodGrids x = Edges.bench(late[i]);
                x.pass(hours - 1);
                Edges.whole(x, 10, 100000);
                Check.badState(x, "pass(1) at 100000", () -> x.pass(1));
            }
        }
        Edges.refused(late[0], "pass(500) at 100000", Edges.BAD_STATE, x -> x.pass(500));
        RodGrids x = Edges.bench(b -> Edges.passAll(b, 99500));
        x.pass(500);
        Edges.whole(x, 10, 100000);
    }
}
