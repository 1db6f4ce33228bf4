/** The boundaries of the promises 1 to 6: a new object, metals and rods. */
final class GridEdges {
    private GridEdges() {
    }

    static void run() {
        Edges.section("Promise 1: A new object");
        Edges.says("Creates a pendulum without rods at time 0, with everything as at first", GridEdges::newObject);
        Edges.says("an empty log, an empty command text and an empty undo stack", GridEdges::emptyAtFirst);
        addMetal();
        setStretch();
        addRod();
        removeRod();
        setLength();
    }

    private static void nothing(RodGrids x) {
    }

    static void sixMetals(RodGrids x) {
        for (int metal = 2; metal < 6; metal++) {
            x.addMetal(100 * (metal - 1));
        }
    }

    private static void fiveMetals(RodGrids x) {
        for (int metal = 2; metal < 5; metal++) {
            x.addMetal(100 * (metal - 1));
        }
    }

    /** Nine rods of which no two are alike. */
    static void nineRods(RodGrids x) {
        for (int rod = 0; rod < 9; rod++) {
            x.addRod(rod % 2, rod % 3 == 0 ? -1 : 1, 1000 + rod);
        }
    }

    static void twoRods(RodGrids x) {
        x.addRod(0, 1, 994000);
        x.addRod(1, -1, 300);
    }

    private static void newObject() {
        RodGrids x = new RodGrids();
        int[] first = {2, 0, 0, 200, 0, 192, 44, 3194, 0, 43196806, 0, 0, 0, 994000, 4, 20};
        for (int what = 0; what < first.length; what++) {
            Edges.whole(x, what, first[what]);
        }
        Check.due("rates()", x.rates(), 0L);
        Check.due("balance()", x.balance(), 0L);
        Check.due("balanceBits()", x.balanceBits(), 0);
        Check.due("meanRate()", (Object) x.meanRate(), (Object) 0.0);
        for (int shelf = 0; shelf < 5; shelf++) {
            Check.due("shelf(" + shelf + ")", x.shelf(shelf), 200);
        }
        Check.noSuch(x, "rod(0, 0)", () -> x.rod(0, 0));
        Check.noSuch(x, "removeRod(0)", () -> x.removeRod(0));
    }

    private static void emptyAtFirst() {
        RodGrids x = new RodGrids();
        Edges.whole(x, 16, 0);
        Edges.whole(x, 17, 0);
        Check.due("day(0, 0)", x.day(0, 0), Edges.NONE);
        Check.due("clearCommands()", x.clearCommands(), 0);
        Check.badState(x, "undo()", () -> x.undo());
        Check.due("runCommands()", x.runCommands(), 0);
        // What one object is told does not reach another one.
        RodGrids other = new RodGrids();
        Edges.whole(other, 0, 2);
        Check.badState(other, "undo() of another object", () -> other.undo());
    }

    private static void addMetal() {
        Edges.section("Promise 2: addMetal");
        Edges.says("Adds a metal.", () -> {
            RodGrids x = Edges.bench(b -> b.addMetal(77));
            Edges.whole(x, 0, 3);
            Check.due("stretch(2)", x.stretch(2), 77);
            Check.due("stretch(1)", x.stretch(1), 190);
            Check.noSuch(x, "stretch(3)", () -> x.stretch(3));
        });
        Edges.says("Undoable.", () -> {
            Edges.undoable(GridEdges::nothing, "addMetal(7)", x -> x.addMetal(7), 2);
            Edges.undoable(GridEdges::fiveMetals, "addMetal(7) to 5", x -> x.addMetal(7), 5);
        });
        Edges.says("`stretch`: 0 to 500", () -> {
            RodGrids x = new RodGrids();
            Check.due("addMetal(0)", x.addMetal(0), 2);
            Check.due("addMetal(500)", x.addMetal(500), 3);
            Check.due("stretch(2)", x.stretch(2), 0);
            Check.due("stretch(3)", x.stretch(3), 500);
        });
        Edges.says("Returns the number of the metal.", () -> {
            RodGrids x = new RodGrids();
            for (int metal = 2; metal < 6; metal++) {
                Check.due("addMetal", x.addMetal(9), metal);
            }
            x.undo();
            Check.due("addMetal behind undo", x.addMetal(9), 5);
        });
        Edges.says("Throws `IllegalArgumentException` if stretch is out of range", () -> {
            for (int stretch : new int[] {-1, 501, Edges.MIN, Edges.MAX}) {
                Edges.refused(GridEdges::nothing, "addMetal(" + stretch + ")", Edges.BAD_ARGUMENT, x -> x.addMetal(stretch));
                Edges.refused(GridEdges::sixMetals, "addMetal(" + stretch + ") to 6", Edges.BAD_ARGUMENT,
                        x -> x.addMetal(stretch));
            }
        });
        Edges.says("Throws `IllegalStateException` if there are 6 metals", () -> {
            Edges.refused(GridEdges::sixMetals, "addMetal(0) to 6", Edges.BAD_STATE, x -> x.addMetal(0));
            Edges.refused(GridEdges::sixMetals, "addMetal(500) to 6", Edges.BAD_STATE, x -> x.addMetal(500));
            Check.due("addMetal(1) to 5", Edges.bench(GridEdges::fiveMetals).addMetal(1), 5);
        });
    }

    private static void setStretch() {
        Edges.section("Promise 3: setStretch");
        Edges.says("Sets the stretch of a metal.", () -> {
            RodGrids x = Edges.bench(GridEdges::twoRods);
            x.setStretch(1, 10);
            Check.due("stretch(1)", x.stretch(1), 10);
            Check.due("stretch(0)", x.stretch(0), 115);
            Check.due("balance()", x.balance(), 994000L * 115 - 300L * 10);
        });
        Edges.says("Undoable.", () -> {
            Edges.undoable(GridEdges::twoRods, "setStretch(1, 7)", x -> x.setStretch(1, 7), 190);
            Edges.undoable(GridEdges::sixMetals, "setStretch(5, 400)", x -> x.setStretch(5, 400), 400);
        });
        Edges.says("`metal`: number of a metal", () -> {
            RodGrids x = Edges.bench(GridEdges::sixMetals);
            Check.due("setStretch(0, 1)", x.setStretch(0, 1), 115);
            Check.due("setStretch(5, 6)", x.setStretch(5, 6), 400);
            Check.due("stretch(0)", x.stretch(0), 1);
            Check.due("stretch(5)", x.stretch(5), 6);
            Check.due("setStretch(1, 2) of 2 metals", new RodGrids().setStretch(1, 2), 190);
        });
        Edges.says("`stretch`: 0 to 500", () -> {
            RodGrids x = new RodGrids();
            Check.due("setStretch(0, 0)", x.setStretch(0, 0), 115);
            Check.due("setStretch(0, 500)", x.setStretch(0, 500), 0);
            Check.due("stretch(0)", x.stretch(0), 500);
        });
        Edges.says("Returns the previous stretch.", () -> {
            RodGrids x = new RodGrids();
            Check.due("setStretch(1, 3)", x.setStretch(1, 3), 190);
            Check.due("setStretch(1, 4)", x.setStretch(1, 4), 3);
            Check.due("setStretch(1, 4) again", x.setStretch(1, 4), 4);
        });
        Edges.says("Throws `IndexOutOfBoundsException` if there is no such metal", () -> {
            for (int metal : new int[] {-1, 2, 6, Edges.MIN, Edges.MAX}) {
                Edges.refused(GridEdges::twoRods, "setStretch(" + metal + ", 1)", Edges.NO_SUCH, x -> x.setStretch(metal, 1));
                Edges.refused(GridEdges::twoRods, "setStretch(" + metal + ", 501)", Edges.NO_SUCH,
                        x -> x.setStretch(metal, 501));
            }
            Edges.refused(GridEdges::sixMetals, "setStretch(6, 1) of 6", Edges.NO_SUCH, x -> x.setStretch(6, 1));
        });
        Edges.says("Throws `IllegalArgumentException` if stretch is out of range", () -> {
            for (int stretch : new int[] {-1, 501, Edges.MIN, Edges.MAX}) {
                Edges.refused(GridEdges::twoRods, "setStretch(1, " + stretch + ")", Edges.BAD_ARGUMENT,
                        x -> x.setStretch(1, stretch));
            }
        });
    }

    private static void addRod() {
        Edges.section("Promise 4: addRod");
        Edges.says("Adds a rod behind the others.", GridEdges::rodBehindOthers);
        Edges.says("Undoable.", () -> {
            Edges.undoable(GridEdges::nothing, "addRod(1, -1, 7)", x -> x.addRod(1, -1, 7), 0);
            Edges.undoable(x -> Edges.addRods(x, 8, 1, 5), "addRod(1, 1, 7) to 8", x -> x.addRod(1, 1, 7), 8);
        });
        Edges.says("`metal`: number of a metal", () -> {
            RodGrids x = Edges.bench(GridEdges::sixMetals);
            Check.due("addRod(0, 1, 5)", x.addRod(0, 1, 5), 0);
            Check.due("addRod(5, 1, 5)", x.addRod(5, 1, 5), 1);
            Check.due("rod(0, 0)", x.rod(0, 0), 0);
            Check.due("rod(1, 0)", x.rod(1, 0), 5);
            Check.due("balance()", x.balance(), 5L * 115 + 5L * 400);
            Check.due("addRod(1, 1, 5) of 2 metals", new RodGrids().addRod(1, 1, 5), 0);
        });
        Edges.says("`direction`: 1 or -1", () -> {
            RodGrids x = Edges.bench(GridEdges::twoRods);
            Check.due("rod(0, 1)", x.rod(0, 1), 1);
            Check.due("rod(1, 1)", x.rod(1, 1), -1);
        });
        Edges.says("`length`: 1 to 1000000", () -> {
            RodGrids x = new RodGrids();
            Check.due("addRod(0, -1, 1)", x.addRod(0, -1, 1), 0);
            Check.due("addRod(0, -1, 1000000)", x.addRod(0, -1, 1000000), 1);
            Check.due("rod(0, 2)", x.rod(0, 2), 1);
            Check.due("rod(1, 2)", x.rod(1, 2), 1000000);
        });
        Edges.says("Returns the number of the rod.", () -> {
            RodGrids x = new RodGrids();
            for (int rod = 0; rod < 9; rod++) {
                Check.due("addRod", x.addRod(0, 1, 8), rod);
            }
            x.removeRod(0);
            Check.due("addRod behind removeRod", x.addRod(0, 1, 8), 8);
        });
        Edges.says("Throws `IndexOutOfBoundsException` if there is no such metal", () -> {
            for (int metal : new int[] {-1, 2, 6, Edges.MIN, Edges.MAX}) {
                String call = "addRod(" + metal + ", ..)";
                Edges.refused(GridEdges::nothing, call, Edges.NO_SUCH, x -> x.addRod(metal, 1, 5));
                Edges.refused(GridEdges::nothing, call, Edges.NO_SUCH, x -> x.addRod(metal, 0, 0));
                Edges.refused(GridEdges::nineRods, call + " to 9", Edges.NO_SUCH, x -> x.addRod(metal, 1, 5));
            }
            Edges.refused(GridEdges::sixMetals, "addRod(6, 1, 5)", Edges.NO_SUCH, x -> x.addRod(6, 1, 5));
        });
        Edges.says("Throws `IllegalArgumentException` if direction or length is out of range", GridEdges::wrongRods);
        Edges.says("Throws `IllegalStateException` if there are 9 rods", () -> {
            Edges.refused(GridEdges::nineRods, "addRod(0, 1, 1) to 9", Edges.BAD_STATE, x -> x.addRod(0, 1, 1));
            Edges.refused(GridEdges::nineRods, "addRod(1, -1, 1000000) to 9", Edges.BAD_STATE, x -> x.addRod(1, -1, 1000000));
            Check.due("addRod to 8", Edges.bench(b -> Edges.addRods(b, 8, 1, 5)).addRod(0, 1, 5), 8);
        });
    }

    private static void rodBehindOthers() {
        RodGrids x = Edges.bench(GridEdges::twoRods);
        x.addRod(1, 1, 44);
        int[][] rods = {{0, 1, 994000}, {1, -1, 300}, {1, 1, 44}};
        for (int rod = 0; rod < 3; rod++) {
            for (int what = 0; what < 3; what++) {
                Check.due("rod(" + rod + ", " + what + ")", x.rod(rod, what), rods[rod][what]);
            }
        }
        Edges.whole(x, 1, 3);
    }

    private static void wrongRods() {
        for (int direction : new int[] {0, 2, -2, Edges.MIN, Edges.MAX}) {
            String call = "addRod(0, " + direction + ", 5)";
            Edges.refused(GridEdges::twoRods, call, Edges.BAD_ARGUMENT, x -> x.addRod(0, direction, 5));
            Edges.refused(GridEdges::nineRods, call + " to 9", Edges.BAD_ARGUMENT, x -> x.addRod(0, direction, 5));
        }
        for (int length : new int[] {0, -1, 1000001, Edges.MIN, Edges.MAX}) {
            String call = "addRod(0, 1, " + length + ")";
            Edges.refused(GridEdges::twoRods, call, Edges.BAD_ARGUMENT, x -> x.addRod(0, 1, length));
            Edges.refused(GridEdges::twoRods, call + " up", Edges.BAD_ARGUMENT, x -> x.addRod(0, -1, length));
            Edges.refused(GridEdges::nineRods, call + " to 9", Edges.BAD_ARGUMENT, x -> x.addRod(0, 1, length));
        }
    }

    private static void removeRod() {
        Edges.section("Promise 5: removeRod");
        Edges.says("Removes a rod; the numbers of those behind it decrease by 1.", GridEdges::rodsBehindRemoved);
        Edges.says("Undoable.", () -> {
            Edges.undoable(GridEdges::nineRods, "removeRod(0)", x -> x.removeRod(0), 8);
            Edges.undoable(GridEdges::nineRods, "removeRod(8)", x -> x.removeRod(8), 8);
            Edges.undoable(Edges::oneRod, "removeRod(0) of 1", x -> x.removeRod(0), 0);
        });
        Edges.says("`rod`: number of a rod", () -> {
            Check.due("removeRod(0) of 1", Edges.bench(Edges::oneRod).removeRod(0), 0);
            Check.due("removeRod(8) of 9", Edges.bench(GridEdges::nineRods).removeRod(8), 8);
        });
        Edges.says("Returns the number of rods that are left.", () -> {
            RodGrids x = Edges.bench(GridEdges::nineRods);
            for (int left = 8; left >= 0; left--) {
                Check.due("removeRod(0)", x.removeRod(0), left);
                Edges.whole(x, 1, left);
            }
        });
        Edges.says("Throws `IndexOutOfBoundsException` if there is no such rod", () -> {
            for (int rod : new int[] {-1, 2, 9, Edges.MIN, Edges.MAX}) {
                Edges.refused(GridEdges::twoRods, "removeRod(" + rod + ")", Edges.NO_SUCH, x -> x.removeRod(rod));
            }
            Edges.refused(GridEdges::nothing, "removeRod(0) of none", Edges.NO_SUCH, x -> x.removeRod(0));
            Edges.refused(GridEdges::nineRods, "removeRod(9) of 9", Edges.NO_SUCH, x -> x.removeRod(9));
        });
    }

    private static void rodsBehindRemoved() {
        for (int removed = 0; removed < 9; removed++) {
            RodGrids x = Edges.bench(GridEdges::nineRods);
            x.removeRod(removed);
            Edges.whole(x, 1, 8);
            for (int rod = 0; rod < 8; rod++) {
                int old = rod < removed ? rod : rod + 1;
                Check.due("rod(" + rod + ", 0)", x.rod(rod, 0), old % 2);
                Check.due("rod(" + rod + ", 1)", x.rod(rod, 1), old % 3 == 0 ? -1 : 1);
                Check.due("rod(" + rod + ", 2)", x.rod(rod, 2), 1000 + old);
            }
            Check.noSuch(x, "rod(8, 0)", () -> x.rod(8, 0));
        }
    }

    private static void setLength() {
        Edges.section("Promise 6: setLength");
        Edges.says("Sets the length of a rod.", () -> {
            RodGrids x = Edges.bench(GridEdges::nineRods);
            x.setLength(4, 77);
            for (int rod = 0; rod < 9; rod++) {
                Check.due("rod(" + rod + ", 2)", x.rod(rod, 2), rod == 4 ? 77 : 1000 + rod);
            }
        });
        Edges.says("Undoable.", () -> {
            Edges.undoable(GridEdges::twoRods, "setLength(1, 9)", x -> x.setLength(1, 9), 300);
            Edges.undoable(GridEdges::nineRods, "setLength(8, 1008)", x -> x.setLength(8, 1008), 1008);
        });
        Edges.says("`rod`: number of a rod", () -> {
            RodGrids x = Edges.bench(GridEdges::nineRods);
            Check.due("setLength(0, 5)", x.setLength(0, 5), 1000);
            Check.due("setLength(8, 6)", x.setLength(8, 6), 1008);
            Check.due("rod(0, 2)", x.rod(0, 2), 5);
            Check.due("rod(8, 2)", x.rod(8, 2), 6);
        });
        Edges.says("`length`: 1 to 1000000", () -> {
            RodGrids x = Edges.bench(GridEdges::twoRods);
            Check.due("setLength(1, 1)", x.setLength(1, 1), 300);
            Check.due("rod(1, 2)", x.rod(1, 2), 1);
            Check.due("setLength(1, 1000000)", x.setLength(1, 1000000), 1);
            Check.due("rod(1, 2)", x.rod(1, 2), 1000000);
        });
        Edges.says("Returns the previous length.", () -> {
            RodGrids x = Edges.bench(GridEdges::twoRods);
            Check.due("setLength(0, 12)", x.setLength(0, 12), 994000);
            Check.due("setLength(0, 12) again", x.setLength(0, 12), 12);
        });
        Edges.says("Throws `IndexOutOfBoundsException` if there is no such rod", () -> {
            for (int rod : new int[] {-1, 2, 9, Edges.MIN, Edges.MAX}) {
                Edges.refused(GridEdges::twoRods, "setLength(" + rod + ", 5)", Edges.NO_SUCH, x -> x.setLength(rod, 5));
                Edges.refused(GridEdges::twoRods, "setLength(" + rod + ", 0)", Edges.NO_SUCH, x -> x.setLength(rod, 0));
            }
            Edges.refused(GridEdges::nothing, "setLength(0, 5) of none", Edges.NO_SUCH, x -> x.setLength(0, 5));
            Edges.refused(GridEdges::nineRods, "setLength(9, 5) of 9", Edges.NO_SUCH, x -> x.setLength(9, 5));
        });
        Edges.says("Throws `IllegalArgumentException` if length is out of range", () -> {
            for (int length : new int[] {0, -1, 1000001, Edges.MIN, Edges.MAX}) {
                Edges.refused(GridEdges::twoRods, "setLength(1, " + length + ")", Edges.BAD_ARGUMENT,
                        x -> x.setLength(1, length));
            }
        });
    }
}
