import java.util.ArrayList;
import java.util.List;

/** The boundaries of undo, of exceptions and of the digest: the document's terms, and the promises 30 and 31. */
final class UndoEdges {
    private UndoEdges() {
    }

    static void run() {
        Edges.section("Terms");
        savedStates();
        exceptions();
        undo();
        digest();
    }

    private static void savedStates() {
        Edges.says("Every method that is marked \"undoable\" saves", UndoEdges::eachUndoable);
        Edges.says("the whole state but the command text on an undo stack", UndoEdges::wholeState);
        Edges.says("when it ends normally, also if it changes nothing", UndoEdges::unchanged);
        Edges.says("The saved state is the one from before the call.", () -> {
            RodGrids x = new RodGrids();
            x.turnNut(3);
            x.turnNut(4);
            x.undo();
            Edges.whole(x, 4, 3);
            x.undo();
            Edges.whole(x, 4, 0);
        });
        Edges.says("The stack keeps the latest 4 saved states and drops older ones.", UndoEdges::fourStates);
    }

    /** The calls that save, each as one that changes something on a bench with two rods and a text. */
    private static Edges.Act[] changes() {
        return new Edges.Act[] {x -> x.addMetal(5), x -> x.setStretch(0, 5), x -> x.addRod(0, 1, 5), x -> x.removeRod(0),
            x -> x.setLength(0, 5), x -> x.setShelf(0, 5), x -> x.hang(4), x -> x.turnNut(5), x -> x.wind(),
            x -> x.set(2, 5), x -> x.pass(5), x -> x.runCommands()};
    }

    /** The calls that save none, each with fitting arguments. */
    private static Edges.Act[] questions() {
        return new Edges.Act[] {x -> x.rod(1, 4), x -> x.stretch(0), x -> x.shelf(4), x -> x.whole(9), x -> x.balance(),
            x -> x.rates(), x -> x.balanceBits(), x -> x.day(0, 2), x -> x.meanRate(), x -> x.rateAt(5),
            x -> x.matchLength(1), x -> x.bestNut(), x -> x.rangeOfRates(0, 99), x -> x.changeWithin(99), x -> x.digest()};
    }

    private static void lived(RodGrids x) {
        GridEdges.twoRods(x);
        x.pass(30);
        Check.type(x, "nut 5;");
    }

    private static void eachUndoable() {
        for (Edges.Act change : changes()) {
            RodGrids y = Edges.bench(UndoEdges::lived);
            Object answer = change.on(y);
            Edges.undoable(UndoEdges::lived, "a call that is undoable", change, answer);
        }
        for (Edges.Act question : questions()) {
            RodGrids x = Edges.bench(b -> GridEdges.twoRods(b));
            x.undo();
            x.undo();
            x.runCommands();
            x.undo();
            Check.outcome(() -> question.on(x));
            x.type(5);
            x.clearCommands();
            Check.badState(x, "undo() behind calls that are not undoable", () -> x.undo());
        }
    }

    private static void wholeState() {
        RodGrids x = Edges.bench(UndoEdges::lived);
        RodGrids due = Edges.bench(UndoEdges::lived);
        Check.type(x, "metal 9;down 2 8;cut 0 7;cold 3 6;hang 3;nut 5;set 0 200000;set 1 5;set 2 3;pass 300;wind;pass 1;");
        Check.due("runCommands()", x.runCommands(), 12);
        int[] changed = {3, 3, 3, -6, 5, 191, 26, 1115, x.whole(8), x.whole(9), 331, 193, 138, 200000, 5, 3, 10};
        for (int what = 0; what < changed.length; what++) {
            Edges.whole(x, what, changed[what]);
        }
        x.undo();
        for (int what = 0; what < changed.length; what++) {
            Edges.whole(x, what, due.whole(what));
        }
        Check.due("clearCommands()", x.clearCommands() > 0, true);
        Check.type(x, "nut 5;");
        due.wind();
        due.undo();
        Check.due("digest() when all is back", x.digest(), due.digest());
        for (int hours = 1; hours < 40; hours += 11) {
            x.pass(hours);
            due.pass(hours);
            Check.due("digest() hours later", x.digest(), due.digest());
        }
        RodGrids text = new RodGrids();
        text.turnNut(1);
        text.type('x');
        text.undo();
        Edges.whole(text, 17, 1);
        Check.due("runCommands() of a text that stays", text.runCommands(), -10);
        text.turnNut(1);
        text.clearCommands();
        text.undo();
        Edges.whole(text, 17, 0);
    }

    private static void unchanged() {
        Edges.Act[] calls = {x -> x.setStretch(0, 115), x -> x.setLength(1, 300), x -> x.setShelf(0, 200), x -> x.hang(0),
            x -> x.turnNut(0), x -> x.wind(), x -> x.set(0, 994000), x -> x.set(1, 4), x -> x.set(2, 20)};
        for (Edges.Act call : calls) {
            RodGrids x = Edges.bench(GridEdges::twoRods);
            call.on(x);
            Check.due("undo() behind a call that changes nothing", x.undo(), 2);
        }
        RodGrids y = Edges.bench(GridEdges::twoRods);
        y.runCommands();
        Check.due("undo() behind a run of none", y.undo(), 2);
        Check.run(y, "hang 5;");
        Check.due("undo() behind a run that stops at once", y.undo(), 2);
        Check.run(y, "hang 5");
        Check.due("undo() behind a run with a fault", y.undo(), 1);
    }

    private static void fourStates() {
        for (int calls = 1; calls <= 9; calls++) {
            RodGrids x = new RodGrids();
            for (int call = 1; call <= calls; call++) {
                x.turnNut(1);
            }
            for (int left = Math.min(calls, 4) - 1; left >= 0; left--) {
                Check.due("undo() behind " + calls, x.undo(), left);
            }
            Edges.whole(x, 4, Math.max(0, calls - 4));
            Check.badState(x, "undo() of a state that was dropped", () -> x.undo());
            x.turnNut(2);
            Check.due("undo() when it was empty", x.undo(), 0);
            Edges.whole(x, 4, Math.max(0, calls - 4));
        }
    }

    private static void exceptions() {
        Edges.says("A call that throws an exception changes nothing.", () -> {
            Edges.Act[] wrong = {x -> x.addMetal(501), x -> x.setStretch(2, 5), x -> x.addRod(0, 0, 5), x -> x.removeRod(2),
                x -> x.setLength(0, 0), x -> x.setShelf(0, 601), x -> x.hang(5), x -> x.turnNut(501), x -> x.set(3, 5),
                x -> x.pass(501), x -> x.rod(2, 0), x -> x.stretch(2), x -> x.shelf(5), x -> x.whole(18), x -> x.day(-1, 0),
                x -> x.rateAt(601), x -> x.matchLength(2), x -> x.rangeOfRates(1, 0), x -> x.changeWithin(501),
                x -> x.type(128)};
            for (Edges.Act call : wrong) {
                Object outcome = Check.outcome(() -> call.on(Edges.bench(UndoEdges::lived)));
                Check.due("a call that throws", outcome.toString().startsWith("throws."), true);
                Edges.still(UndoEdges::lived, "a call that throws", call, outcome);
            }
        });
        Edges.says("If several exceptions of a method apply, the one that is listed first is thrown.", UndoEdges::listedFirst);
        Edges.says("NONE is returned only if no exception applies.", () -> {
            RodGrids x = new RodGrids();
            Check.due("day(0, 3)", x.day(0, 3), Edges.NONE);
            Check.badArgument(x, "day(0, 4)", () -> x.day(0, 4));
            Check.badArgument(x, "day(0, -1)", () -> x.day(0, -1));
            Check.badArgument(x, "day(-1, 3)", () -> x.day(-1, 3));
            Check.badArgument(x, "day(MAX, 4)", () -> x.day(Edges.MAX, 4));
        });
        Edges.says("`NONE = -2000000000`: Returned where there is no such value.", () -> {
            Check.due("NONE", RodGrids.NONE, -2000000000);
            Check.due("day(0, 0)", new RodGrids().day(0, 0), (long) RodGrids.NONE);
        });
    }

    private static void listedFirst() {
        Edges.Setup sixMetals = GridEdges::sixMetals;
        Edges.Setup nineRods = GridEdges::nineRods;
        Edges.Setup noRods = x -> x.turnNut(500);
        Edges.Setup fullText = x -> Check.type(x, "nut 1;".repeat(25));
        Edges.Setup lastHour = x -> Edges.passAll(x, 100000);
        Edges.refused(sixMetals, "addMetal(501) to 6", Edges.BAD_ARGUMENT, x -> x.addMetal(501));
        Edges.refused(sixMetals, "setStretch(6, 501)", Edges.NO_SUCH, x -> x.setStretch(6, 501));
        Edges.refused(nineRods, "addRod(2, 0, 0) to 9", Edges.NO_SUCH, x -> x.addRod(2, 0, 0));
        Edges.refused(nineRods, "addRod(2, 1, 5) to 9", Edges.NO_SUCH, x -> x.addRod(2, 1, 5));
        Edges.refused(nineRods, "addRod(1, 0, 5) to 9", Edges.BAD_ARGUMENT, x -> x.addRod(1, 0, 5));
        Edges.refused(nineRods, "addRod(1, 1, 0) to 9", Edges.BAD_ARGUMENT, x -> x.addRod(1, 1, 0));
        Edges.refused(noRods, "addRod(2, 0, 0) to none", Edges.NO_SUCH, x -> x.addRod(2, 0, 0));
        Edges.refused(noRods, "setLength(0, 0) of none", Edges.NO_SUCH, x -> x.setLength(0, 0));
        Edges.refused(nineRods, "setLength(9, 0) of 9", Edges.NO_SUCH, x -> x.setLength(9, 0));
        Edges.refused(noRods, "setShelf(5, 601)", Edges.NO_SUCH, x -> x.setShelf(5, 601));
        Edges.refused(noRods, "turnNut(1001) at 500", Edges.BAD_ARGUMENT, x -> x.turnNut(1001));
        Edges.refused(lastHour, "pass(501) at 100000", Edges.BAD_ARGUMENT, x -> x.pass(501));
        Edges.refused(noRods, "rod(0, 5) of none", Edges.NO_SUCH, x -> x.rod(0, 5));
        Edges.refused(nineRods, "rod(9, 5) of 9", Edges.NO_SUCH, x -> x.rod(9, 5));
        Edges.refused(fullText, "type(128) to 150", Edges.BAD_ARGUMENT, x -> x.type(128));
    }

    private static void undo() {
        Edges.section("Promise 30: undo");
        Edges.says("Restores the latest saved state and removes it from the undo stack.", () -> {
            RodGrids x = new RodGrids();
            for (int nut = 1; nut <= 4; nut++) {
                x.turnNut(1);
            }
            for (int nut = 3; nut >= 0; nut--) {
                x.undo();
                Edges.whole(x, 4, nut);
            }
            // Undo saves nothing, so there is no way forward again.
            Check.badState(x, "undo() of undo()", () -> x.undo());
            x.turnNut(7);
            x.hang(2);
            x.undo();
            x.hang(3);
            x.undo();
            Edges.whole(x, 2, 0);
            Edges.whole(x, 4, 7);
            x.undo();
            Edges.whole(x, 4, 0);
        });
        Edges.says("Returns the number of states that are left on the stack.", () -> {
            RodGrids x = new RodGrids();
            for (int i = 0; i < 10; i++) {
                x.wind();
            }
            for (int left = 3; left >= 0; left--) {
                Check.due("undo()", x.undo(), left);
            }
            x.wind();
            Check.due("undo() of 1", x.undo(), 0);
        });
        Edges.says("Throws `IllegalStateException` if the stack is empty", () -> {
            RodGrids x = new RodGrids();
            Check.badState(x, "undo() at first", () -> x.undo());
            Check.badState(x, "undo() at first, again", () -> x.undo());
            Check.due("addMetal(3) behind it", x.addMetal(3), 2);
            x.pass(30);
            x.undo();
            x.undo();
            Check.type(x, "wind;");
            Check.badState(x, "undo() of none", () -> x.undo());
            Edges.whole(x, 17, 5);
            Check.due("runCommands() behind it", x.runCommands(), 1);
            Check.due("undo() of the run", x.undo(), 0);
        });
    }

    /** The digest by the document's words, from what the other calls answer. */
    private static long digestOf(RodGrids x, int saved) {
        List<Long> values = new ArrayList<>();
        values.add((long) saved);
        for (int what = 0; what <= 17; what++) {
            values.add((long) x.whole(what));
        }
        values.add(x.balance());
        values.add(x.rates());
        values.add((long) x.balanceBits());
        for (int metal = 0; metal < x.whole(0); metal++) {
            values.add((long) x.stretch(metal));
        }
        for (int shelf = 0; shelf < 5; shelf++) {
            values.add((long) x.shelf(shelf));
        }
        for (int i = 0; i < 5 * x.whole(1); i++) {
            values.add((long) x.rod(i / 5, i % 5));
        }
        for (int i = 0; i < 4 * x.whole(16); i++) {
            values.add(x.day(i / 4, i % 4));
        }
        values.add((long) x.bestNut());
        return hashOf(values);
    }

    private static long hashOf(List<Long> values) {
        long hash = 43239;
        for (long value : values) {
            hash = 31 * hash + value;
        }
        return hash;
    }

    /** A bench of which everything is full, and no two values that follow each other are alike. */
    private static void full(RodGrids x) {
        GridEdges.sixMetals(x);
        GridEdges.nineRods(x);
        for (int shelf = 0; shelf < 5; shelf++) {
            x.setShelf(shelf, 10 * shelf - 30);
        }
        x.hang(3);
        x.turnNut(-77);
        x.pass(263);
        x.pass(1);
        Check.type(x, "wind;".repeat(30));
    }

    private static void digest() {
        Edges.section("Promise 31: digest");
        Edges.says("Returns a hash of the state.", () -> {
            RodGrids x = Edges.bench(UndoEdges::lived);
            long hash = x.digest();
            Check.due("digest() again", x.digest(), hash);
            Check.due("digest() of another object in the same state", Edges.bench(UndoEdges::lived).digest(), hash);
        });
        Edges.says("It starts with h = 43239.", () -> {
            List<Long> first = new ArrayList<>();
            for (int value : new int[] {0, 2, 0, 0, 200, 0, 192, 44, 3194, 0, 43196806, 0, 0, 0, 994000, 4, 20, 0, 0, 0, 0, 0,
                115, 190, 200, 200, 200, 200, 200, 500}) {
                first.add((long) value);
            }
            Check.due("digest() of a new object", new RodGrids().digest(), hashOf(first));
        });
        Edges.says("For each of the following values v, in this order, h becomes 31 * h + v (long arithmetic, overflow wraps).", () -> {
            // Both were counted out with another language's whole numbers, modulo 2 to the 64th.
            Check.due("digest() of a new object", new RodGrids().digest(), -1865753979571446268L);
            Check.due("digest() of a full one", Edges.bench(UndoEdges::full).digest(), 5245438837685656007L);
        });
        Edges.says("the number of states on the undo stack", () -> {
            RodGrids x = new RodGrids();
            for (int saved = 0; saved <= 6; saved++) {
                Check.due("digest() of " + saved + " saved", x.digest(), digestOf(x, Math.min(saved, 4)));
                x.wind();
            }
            for (int saved = 3; saved >= 0; saved--) {
                x.undo();
                Check.due("digest() of " + saved + " left", x.digest(), digestOf(x, saved));
            }
        });
        Edges.says("whole() of 0 to 17; balance(), rates(), balanceBits(); for each metal its stretch; for each shelf its warmth; "
                + "for each rod rod() of 0 to 4; for each day of the log, from 0 on, day() of 0 to 3; bestNut().", () -> {
            RodGrids x = Edges.bench(UndoEdges::full);
            Check.due("digest() of a full one", x.digest(), digestOf(x, 4));
            RodGrids none = new RodGrids();
            Check.due("digest() of a new one", none.digest(), digestOf(none, 0));
            RodGrids few = Edges.bench(UndoEdges::lived);
            Check.due("digest() of some rods and a day", few.digest(), digestOf(few, 3));
        });
        Edges.says("Returns the hash.", () -> {
            // Each of these changes shows.
            for (Edges.Act change : changes()) {
                RodGrids x = Edges.bench(UndoEdges::lived);
                Edges.makeBusy(x);
                long before = x.digest();
                change.on(x);
                Check.due("whether digest() is another", x.digest() != before, true);
            }
            RodGrids x = new RodGrids();
            long before = x.digest();
            x.type(0);
            Check.due("whether digest() is another behind type(0)", x.digest() != before, true);
        });
    }
}
