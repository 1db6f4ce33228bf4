/** The boundaries of the texts of commands: the document's terms for them, and the promises 27 to 29. */
final class TextEdges {
    private interface Due {
        int of(int value);
    }

    private TextEdges() {
    }

    static void run() {
        Edges.section("Terms");
        lengthOfText();
        formOfCommands();
        words();
        faults();
        runs();
        type();
        clearCommands();
        runCommands();
    }

    /** The text has its fault at this index, and to run it changes nothing. */
    private static void fault(String text, int index) {
        Edges.still(b -> Check.type(b, text), "runCommands() of \"" + text + "\"", x -> x.runCommands(), -10 - index);
    }

    /** The text has no fault, this many of its commands are carried out, and the run saves one state. */
    private static void carriedOut(String text, int count) {
        if (text.isEmpty()) {
            runOfNone();
            return;
        }
        Edges.undoable(b -> Check.type(b, text), "runCommands() of \"" + text + "\"", x -> x.runCommands(), count);
    }

    /** Benches of Edges are given a text where there is none, so the empty text has a run of its own. */
    private static void runOfNone() {
        RodGrids x = new RodGrids();
        for (int states = 1; states <= 6; states++) {
            x.turnNut(1);
            long before = x.digest();
            Check.due("runCommands() of an empty text", x.runCommands(), 0);
            Check.due("undo() of it", x.undo(), Math.min(states, 3));
            if (states <= 3) {
                Check.due("digest() behind it", x.digest(), before);
            }
            Edges.whole(x, 4, states);
        }
    }

    /** Tries each byte behind the front. */
    private static void eachByteBehind(String front, Due due) {
        for (int value = 0; value < 128; value++) {
            int answer = due.of(value);
            if (answer < 0) {
                fault(front + (char) value, -10 - answer);
            } else {
                carriedOut(front + (char) value, answer);
            }
        }
    }

    private static boolean isLetter(int value) {
        return value >= 'a' && value <= 'z';
    }

    private static boolean isDigitOrSpace(int value) {
        return value >= '0' && value <= '9' || value == 32;
    }

    private static void lengthOfText() {
        Edges.says("The command text has at most 150 bytes.", () -> {
            RodGrids x = new RodGrids();
            for (int length = 1; length <= 150; length++) {
                Check.due("type(32)", x.type(32), length);
            }
            Check.badState(x, "type(32) to 150", () -> x.type(32));
            Edges.whole(x, 17, 150);
            carriedOut("wind;".repeat(30), 30);
            fault("wind;".repeat(29) + "wind5", 149);
            fault("wind;".repeat(29) + "nut 5", 150);
        });
        Edges.says("(perhaps none: a text that is empty, or has spaces alone, has no fault)", () -> {
            carriedOut("", 0);
            carriedOut(" ", 0);
            carriedOut(" ".repeat(149), 0);
            carriedOut(" ".repeat(150), 0);
            fault(";", 0);
            fault(" ;", 1);
            fault(" ".repeat(149) + ";", 149);
        });
    }

    private static void formOfCommands() {
        Edges.says("each of which is a word of letters a to z", () -> {
            eachByteBehind("", value -> value == 32 ? 0 : -10);
            eachByteBehind("wind", value -> value == ';' ? 1 : value == 32 ? -15 : isLetter(value) ? -10 : -14);
            eachByteBehind("nut 1;", value -> value == 32 ? 1 : -16);
            fault("Wind;", 0);
            fault("winD;", 0);
            fault("wind{", 4);
            fault("wind`", 4);
        });
        Edges.says("followed by its numbers, each of one to seven digits", () -> {
            eachByteBehind("nut ", value -> isDigitOrSpace(value) ? -15 : -14);
            eachByteBehind("nut 1", value -> value == ';' ? 1 : isDigitOrSpace(value) ? -16 : -15);
            eachByteBehind("down 1 ", value -> isDigitOrSpace(value) ? -18 : -17);
            eachByteBehind("down 1 2", value -> value == ';' ? 1 : isDigitOrSpace(value) ? -19 : -18);
            carriedOut("nut 9;", 1);
            carriedOut("down 1 9;", 1);
            carriedOut("nut 1234567;", 0);
            carriedOut("down 1 1234567;", 0);
            fault("nut ;", 4);
            fault("nut -1;", 4);
            fault("down 1 ;", 7);
            fault("down ;", 5);
            fault("down 1;", 6);
        });
        Edges.says("(zeros in front are allowed; an eighth digit cannot stand)", () -> {
            carriedOut("nut 0;", 1);
            carriedOut("nut 0000001;", 1);
            carriedOut("nut 0000000;", 1);
            carriedOut("down 0000001 1000000;", 1);
            fault("nut 00000001;", 11);
            fault("nut 12345678;", 11);
            fault("down 00000001 5;", 12);
            fault("down 1 00000005;", 14);
            eachByteBehind("nut 0000001", value -> value == ';' ? 1 : value == 32 ? -22 : -21);
            eachByteBehind("down 0000001", value -> value == 32 ? -23 : -22);
            RodGrids x = new RodGrids();
            Check.due("runCommands()", Check.run(x, "nut 0000012;"), 1);
            Edges.whole(x, 4, 12);
        });
        Edges.says("with at least one space (byte 32) in front", () -> {
            eachByteBehind("nut", value -> value == 32 ? -14 : isLetter(value) ? -10 : -13);
            eachByteBehind("down 1", value -> isDigitOrSpace(value) ? -17 : -16);
            carriedOut("nut 1;", 1);
            carriedOut("nut    1;", 1);
            carriedOut("down   1   7;", 1);
            fault("nut1;", 3);
            fault("down1 7;", 4);
            fault("nut\t1;", 3);
            fault("nut 1\t;", 5);
            carriedOut("nut" + " ".repeat(145) + "1;", 1);
        });
        Edges.says("and a semicolon", () -> {
            eachByteBehind("nut 1 ", value -> value == ';' ? 1 : value == 32 ? -17 : -16);
            fault("nut 1", 5);
            fault("wind", 4);
            fault("nut 1 2;", 6);
            fault("wind 5;", 5);
            fault("down 1 2 3;", 9);
            fault("wind:", 4);
            fault("wind<", 4);
            fault("wind;;", 5);
        });
        Edges.says("Spaces may also stand in front of a command, in front of a semicolon, and at the end.", () -> {
            carriedOut(" wind;", 1);
            carriedOut("   wind;", 1);
            carriedOut("wind ;", 1);
            carriedOut("nut 1   ;", 1);
            carriedOut("wind; ", 1);
            carriedOut("wind;   ", 1);
            carriedOut("  wind  ;  nut  1  ;  ", 2);
            carriedOut("wind;nut 1;", 2);
            fault("wi nd;", 0);
            fault("nut 1 1;", 6);
            fault("  wind  ", 8);
        });
    }

    /** A bench on which each of the words changes something. */
    private static void lived(RodGrids x) {
        GridEdges.twoRods(x);
        x.setShelf(1, 500);
        x.turnNut(10);
        x.pass(30);
    }

    /** To run the text is the same as the call. */
    private static void same(String text, Edges.Act act) {
        RodGrids x = Edges.bench(TextEdges::lived);
        RodGrids y = Edges.bench(TextEdges::lived);
        Check.due("runCommands() of " + text, Check.run(x, text), 1);
        Check.type(y, text);
        long before = y.digest();
        act.on(y);
        Check.due("digest() behind " + text, x.digest(), y.digest());
        Check.due("whether " + text + " changes something", x.digest() != before, true);
        x.pass(20);
        y.pass(20);
        Check.due("digest() 20 hours behind " + text, x.digest(), y.digest());
        x.undo();
        x.undo();
        y.undo();
        y.undo();
        Check.due("digest() behind undo of " + text, x.digest(), y.digest());
    }

    private static void words() {
        Edges.says("metal s (addMetal(s))", () -> {
            same("metal 77;", x -> x.addMetal(77));
            counts("metal 0;", "metal 500;", "metal 501;", "metal 9999999;");
            counts("metal 1;metal 2;metal 3;metal 4;", "", "metal 1;metal 2;metal 3;metal 4;metal 5;", "");
        });
        Edges.says("down m l (addRod(m, 1, l))", () -> {
            same("down 1 77;", x -> x.addRod(1, 1, 77));
            counts("down 0 1;", "down 1 1000000;", "down 2 5;", "down 1 1000001;");
            counts("", "", "down 0 0;", "");
        });
        Edges.says("up m l (addRod(m, -1, l))", () -> {
            same("up 0 77;", x -> x.addRod(0, -1, 77));
            counts("up 1 1;", "up 0 1000000;", "up 2 5;", "up 1 1000001;");
            counts("", "", "up 1 0;", "");
        });
        Edges.says("cut r l (setLength(r, l))", () -> {
            same("cut 1 77;", x -> x.setLength(1, 77));
            counts("down 0 5;cut 0 1;", "down 0 5;cut 0 1000000;", "down 0 5;cut 0 0;", "down 0 5;cut 0 1000001;");
            counts("down 0 5;up 0 6;cut 1 9;", "", "down 0 5;cut 1 9;", "cut 0 9;");
        });
        Edges.says("warm s t (setShelf(s, t))", () -> {
            same("warm 0 77;", x -> x.setShelf(0, 77));
            counts("warm 4 600;", "warm 0 0;", "warm 5 0;", "warm 4 601;");
        });
        Edges.says("cold s t (setShelf(s, -t))", () -> {
            same("cold 0 77;", x -> x.setShelf(0, -77));
            counts("cold 4 300;", "cold 0 0;", "cold 5 0;", "cold 4 301;");
        });
        Edges.says("hang s (hang(s))", () -> {
            same("hang 1;", x -> x.hang(1));
            counts("hang 0;", "hang 4;", "hang 5;", "hang 9999999;");
        });
        Edges.says("nut n (turnNut(n))", () -> {
            same("nut 7;", x -> x.turnNut(7));
            counts("nut 500;", "back 500;nut 1000;", "nut 501;", "back 500;nut 1001;");
        });
        Edges.says("back n (turnNut(-n))", () -> {
            same("back 7;", x -> x.turnNut(-7));
            counts("back 500;", "nut 500;back 1000;", "back 501;", "nut 500;back 1001;");
        });
        Edges.says("wind (wind())", () -> {
            same("wind;", x -> x.wind());
            counts("wind;", "pass 500;wind;", "", "");
        });
        Edges.says("set k v (set(k, v))", () -> {
            same("set 0 990000;", x -> x.set(0, 990000));
            same("set 1 9;", x -> x.set(1, 9));
            same("set 2 9;", x -> x.set(2, 9));
            counts("set 0 100000;", "set 0 2000000;", "set 0 99999;", "set 0 2000001;");
            counts("set 1 1;", "set 1 24;", "set 1 0;", "set 1 25;");
            counts("set 2 0;", "set 2 100;", "set 3 1;", "set 2 101;");
        });
        Edges.says("pass n (pass(n)).", () -> {
            same("pass 7;", x -> x.pass(7));
            counts("pass 1;", "pass 500;", "pass 0;", "pass 501;");
            Edges.Setup late = x -> {
                Edges.passAll(x, 99999);
                Check.type(x, "pass 1;pass 1;");
            };
            Edges.undoable(late, "runCommands() at 99999", x -> x.runCommands(), 1);
            RodGrids x = Edges.bench(late);
            x.runCommands();
            Check.due("runCommands() at 100000", x.runCommands(), 0);
            Edges.whole(x, 10, 100000);
        });
    }

    private static int commandsOf(String text) {
        return text.length() - text.replace(";", "").length();
    }

    /** The first two texts are carried out whole, the others but for their last command. */
    private static void counts(String whole, String alsoWhole, String short1, String short2) {
        for (String text : new String[] {whole, alsoWhole}) {
            carriedOut(text, commandsOf(text));
        }
        for (String text : new String[] {short1, short2}) {
            carriedOut(text, Math.max(0, commandsOf(text) - 1));
        }
    }

    private static void faults() {
        Edges.says("The fault of a command text is the index of the first byte that cannot stand at its place", () -> {
            fault("#", 0);
            fault("wind;#", 5);
            fault("wind;nut #;#", 9);
            fault("nut 1;nut x;bad;", 10);
            fault("nut ;bad;", 4);
            fault("down 1 ;bad;", 7);
            fault("down ;bad;", 5);
            fault("wind 5;bad;", 5);
            fault("nut 1;;bad;", 6);
            fault("set 1 2 ;  @", 11);
            fault("wind;".repeat(29) + "    #", 149);
            fault("\0", 0);
            fault("nut 1;\u007f", 6);
        });
        Edges.says("or the length of the text if it ends too soon", () -> {
            String whole = "down 1 7 ;";
            for (int length = 4; length < whole.length(); length++) {
                fault(whole.substring(0, length), length);
            }
            fault("wind;pass", 9);
            fault("wind;pass 5", 11);
            fault("nut 0" + " ".repeat(145), 150);
            // What was typed before clearCommands() does not take part.
            RodGrids x = new RodGrids();
            Check.due("runCommands() of a whole text", Check.run(x, "nut 12;"), 1);
            Check.due("runCommands() of its front", Check.run(x, "nut 1"), -15);
            Check.due("runCommands() of a shorter front", Check.run(x, "nut "), -14);
            Check.due("runCommands() of its word", Check.run(x, "nut"), -13);
            Check.due("runCommands() of a part of its word", Check.run(x, "nu"), -10);
        });
        Edges.says("A word that is not one of these is at fault with its first byte", () -> {
            String[] wrong = {"x", "win", "windy", "nu", "nuts", "metals", "meta", "dow", "downs", "u", "ups", "cu", "cuts", "war",
                "warms", "col", "colds", "han", "hangs", "bac", "backs", "se", "sets", "pas", "passs", "windwind", "undo", "wnid"};
            for (String word : wrong) {
                fault(word + ";", 0);
                fault("  " + word + " 1;", 2);
                fault("wind;" + word + " 1 2;", 5);
            }
        });
        Edges.says("found when the word is complete: when a byte that is no letter, or the end of the text, follows it", () -> {
            fault("x", 0);
            fault("x ", 0);
            fault("x#", 0);
            fault("wind;x", 5);
            fault("wind;win", 5);
            fault("win5", 0);
            fault("win d;", 0);
            fault("a".repeat(150), 0);
            fault("wind", 4);
            fault("wind#", 4);
        });
        Edges.says("(That a number is out of its range is no fault.)", () -> {
            String[] texts = {"nut 9999999;", "metal 501;", "down 7 0;", "up 0 0;", "cut 0 0;", "warm 9 9;", "cold 0 301;",
                "hang 9;", "back 1001;", "set 9 9;", "pass 0;"};
            for (String text : texts) {
                carriedOut(text, 0);
                carriedOut("wind;" + text, 1);
            }
        });
    }

    private static void runs() {
        Edges.says("if it has a fault, nothing is done", () -> {
            fault("nut 1;set 2 1;pass 24;hang 3;x", 29);
            fault("nut 1;wind", 10);
            fault("metal 1;down 0 5;;", 17);
        });
        Edges.says("otherwise the commands are carried out in their order", () -> {
            RodGrids x = new RodGrids();
            Check.due("runCommands()", Check.run(x, "nut 500;back 3;metal 7;down 2 9;cut 0 8;hang 2;hang 1;"), 7);
            Edges.whole(x, 4, 497);
            Check.due("rod(0, 2)", x.rod(0, 2), 8);
            Check.due("rod(0, 0)", x.rod(0, 0), 2);
            Edges.whole(x, 2, 1);
            Check.due("runCommands() in another order", Check.run(x, "nut 3;nut 1;back 1;"), 1);
            Edges.whole(x, 4, 500);
        });
        Edges.says("until one of them would throw an exception, which is not thrown", () -> {
            carriedOut("hang 5;", 0);
            carriedOut("nut 501;nut 1;", 0);
            carriedOut("set 3 1;wind;", 0);
            RodGrids x = new RodGrids();
            Check.due("runCommands() that stops", Check.run(x, "hang 2;hang 5;hang 3;pass 1;"), 1);
            Edges.whole(x, 2, 2);
            Edges.whole(x, 10, 0);
        });
        Edges.says("those before it stay done, and they alone count", () -> {
            RodGrids x = new RodGrids();
            Check.due("runCommands() that stops at the third", Check.run(x, "nut 5;pass 3;pass 501;nut 1;"), 2);
            Edges.whole(x, 4, 5);
            Edges.whole(x, 10, 3);
            Check.due("runCommands() that stops at the last", Check.run(x, "nut 1;nut 1;nut 1001;"), 2);
            Edges.whole(x, 4, 7);
            Check.due("runCommands() that stops at the first", Check.run(x, "nut 1001;nut 1;"), 0);
            Edges.whole(x, 4, 7);
        });
        Edges.says("A run saves one state, the one from before it; its commands save none.", () -> {
            RodGrids x = new RodGrids();
            Check.due("runCommands() of 6", Check.run(x, "nut 1;nut 1;nut 1;nut 1;nut 1;nut 1;"), 6);
            Edges.whole(x, 4, 6);
            Check.due("undo()", x.undo(), 0);
            Edges.whole(x, 4, 0);
            Check.badState(x, "undo() of none", () -> x.undo());
            carriedOut("nut 1;nut 1;nut 1;nut 1;nut 1;nut 1;", 6);
            carriedOut("nut 1;nut 501;", 1);
        });
    }

    private static void type() {
        Edges.section("Promise 27: type");
        Edges.says("Appends a byte to the command text.", () -> {
            RodGrids x = new RodGrids();
            Check.type(x, "nut 1");
            Check.due("runCommands() of \"nut 1\"", x.runCommands(), -15);
            x.type('5');
            x.type(';');
            Check.due("runCommands() of \"nut 15;\"", x.runCommands(), 1);
            Edges.whole(x, 4, 15);
            // It is not undoable.
            Check.due("undo() of the run alone", x.undo(), 0);
        });
        Edges.says("`value`: 0 to 127", () -> {
            for (int value = 0; value < 128; value++) {
                Check.due("type(" + value + ")", new RodGrids().type(value), 1);
            }
        });
        Edges.says("Returns the length of the text.", () -> {
            RodGrids x = new RodGrids();
            for (int length = 1; length <= 150; length++) {
                Check.due("type(127)", x.type(127), length);
            }
            x.clearCommands();
            Check.due("type(0) behind clearCommands()", x.type(0), 1);
        });
        Edges.says("Throws `IllegalArgumentException` if value is out of range", () -> {
            for (int value : new int[] {-1, 128, 160, 255, 288, Edges.MIN, Edges.MAX}) {
                Edges.refused(TextEdges::lived, "type(" + value + ")", Edges.BAD_ARGUMENT, x -> x.type(value));
                Edges.refused(TextEdges::fullText, "type(" + value + ") to 150", Edges.BAD_ARGUMENT, x -> x.type(value));
            }
        });
        Edges.says("Throws `IllegalStateException` if the text has 150 bytes", () -> {
            for (int value : new int[] {0, ' ', ';', 127}) {
                Edges.refused(TextEdges::fullText, "type(" + value + ") to 150", Edges.BAD_STATE, x -> x.type(value));
            }
            RodGrids x = Edges.bench(b -> Check.type(b, " ".repeat(149)));
            Check.due("type(32) to 149", x.type(32), 150);
        });
    }

    private static void fullText(RodGrids x) {
        Check.type(x, "nut 1;".repeat(25));
    }

    private static void clearCommands() {
        Edges.section("Promise 28: clearCommands");
        Edges.says("Empties the command text.", () -> {
            RodGrids x = Edges.bench(TextEdges::fullText);
            x.clearCommands();
            Edges.whole(x, 17, 0);
            Check.due("runCommands() of none", x.runCommands(), 0);
            Edges.whole(x, 4, 0);
            Check.due("undo() of the run alone", x.undo(), 0);
            Check.badState(x, "undo() of clearCommands()", () -> x.undo());
        });
        Edges.says("Returns the length that it had.", () -> {
            RodGrids x = new RodGrids();
            Check.due("clearCommands() of none", x.clearCommands(), 0);
            x.type(9);
            Check.due("clearCommands() of 1", x.clearCommands(), 1);
            Check.due("clearCommands() of none again", x.clearCommands(), 0);
            Check.due("clearCommands() of 150", Edges.bench(TextEdges::fullText).clearCommands(), 150);
        });
    }

    private static void runCommands() {
        Edges.section("Promise 29: runCommands");
        Edges.says("Runs the command text, which stays as it is.", () -> {
            RodGrids x = Edges.bench(b -> Check.type(b, "nut 2; wind ;"));
            for (int run = 1; run <= 5; run++) {
                Check.due("runCommands()", x.runCommands(), 2);
                Edges.whole(x, 17, 13);
                Edges.whole(x, 4, 2 * run);
            }
            RodGrids y = Edges.bench(b -> Check.type(b, "nut 2; #"));
            Check.due("runCommands() with a fault", y.runCommands(), -17);
            Check.due("runCommands() with a fault again", y.runCommands(), -17);
            Edges.whole(y, 17, 8);
            RodGrids z = Edges.bench(b -> Check.type(b, "nut 300;"));
            Check.due("runCommands()", z.runCommands(), 1);
            Check.due("runCommands() that stops", z.runCommands(), 0);
            Edges.whole(z, 17, 8);
        });
        Edges.says("Undoable, if it has no fault.", () -> {
            carriedOut("nut 2;pass 30;metal 4;down 2 7;", 4);
            carriedOut("", 0);
            carriedOut("nut 501;", 0);
            fault("nut 2;pass 30;metal 4;down 2 7", 30);
        });
        Edges.says("Returns the number of commands that were carried out", () -> {
            carriedOut("wind;", 1);
            carriedOut("wind;".repeat(30), 30);
            carriedOut("nut 20;".repeat(21), 21);
            carriedOut("nut 100;".repeat(6), 5);
            carriedOut("metal 1;".repeat(5), 4);
            carriedOut("down 0 5;".repeat(10), 9);
        });
        Edges.says("-10 minus the fault if it has one", () -> {
            Check.due("runCommands() with a fault at 0", Check.run(new RodGrids(), "x"), -10);
            Check.due("runCommands() with a fault at 1", Check.run(new RodGrids(), " x"), -11);
            Check.due("runCommands() with a fault at 149", Check.run(new RodGrids(), " ".repeat(149) + "#"), -159);
            Check.due("runCommands() with a fault at 150", Check.run(new RodGrids(), " ".repeat(146) + "wind"), -160);
        });
    }
}
