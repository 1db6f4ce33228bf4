/** The promises 1 to 31, each with ordinary values, the edges that the document names, and wrong values. */
public final class PromiseTests {
    private static final int MIN = Integer.MIN_VALUE;
    private static final int MAX = Integer.MAX_VALUE;

    private PromiseTests() {
    }

    public static void main(String[] args) {
        promise1();
        promise2();
        promise3();
        promise4();
        promise5();
        promise6();
        promise7();
        promise8();
        promise9();
        promise10();
        promise11();
        promise12();
        promise12Limits();
        promise12ColdShelf();
        promise13();
        promise14And15();
        promise16();
        promise17And19();
        promise18And21();
        promise20();
        promise22();
        promise23();
        promise24();
        promise25();
        promise26();
        promise27And28();
        promise29Words();
        promise29Faults();
        promise29Stops();
        promise30();
        promise31();
        Check.end("PromiseTests");
    }

    private static void whole(RodGrids x, int what, int want) {
        Check.due("whole(" + what + ")", x.whole(what), want);
    }

    /** The rods of the first run: lengths 800000 down, 600000 up, 794000 down. */
    private static RodGrids threeRods() {
        RodGrids x = new RodGrids();
        x.addRod(0, 1, 800000);
        x.addRod(1, -1, 600000);
        x.addRod(0, 1, 794000);
        return x;
    }

    /** One rod that is as long as the nominal length at the warmth 200. */
    private static RodGrids oneRod() {
        RodGrids x = new RodGrids();
        x.addRod(0, 1, 994000);
        return x;
    }

    /** Empties the undo stack, so that the next undo shows whether a call saved. */
    private static void forget(RodGrids x, int states) {
        for (int i = 0; i < states; i++) {
            x.undo();
        }
    }

    private static void undoes(RodGrids x, String call, Check.Call body, Object want) {
        long before = x.digest();
        Check.due(call, body.answer(), want);
        x.undo();
        Check.due("digest behind undo of " + call, x.digest(), before);
    }

    private static void promise1() {
        RodGrids x = new RodGrids();
        int[] first = {2, 0, 0, 200, 0, 192, 44, 3194, 0, 43196806, 0, 0, 0, 994000, 4, 20, 0, 0};
        for (int what = 0; what < first.length; what++) {
            whole(x, what, first[what]);
        }
        Check.due("stretch(0)", x.stretch(0), 115);
        Check.due("stretch(1)", x.stretch(1), 190);
        for (int shelf = 0; shelf < 5; shelf++) {
            Check.due("shelf", x.shelf(shelf), 200);
        }
        Check.due("balance()", x.balance(), 0L);
        Check.due("rates()", x.rates(), 0L);
        Check.due("balanceBits()", x.balanceBits(), 0);
        Check.due("meanRate()", (Object) x.meanRate(), (Object) 0.0);
        Check.due("day(0, 0)", x.day(0, 0), -2000000000L);
        Check.badState(x, "undo()", () -> x.undo());
        Check.due("NONE", RodGrids.NONE, -2000000000);
    }

    private static void promise2() {
        RodGrids x = new RodGrids();
        Check.badArgument(x, "addMetal(-1)", () -> x.addMetal(-1));
        Check.badArgument(x, "addMetal(501)", () -> x.addMetal(501));
        undoes(x, "addMetal(7)", () -> x.addMetal(7), 2);
        Check.due("addMetal(0)", x.addMetal(0), 2);
        Check.due("addMetal(500)", x.addMetal(500), 3);
        Check.due("stretch(2)", x.stretch(2), 0);
        Check.due("stretch(3)", x.stretch(3), 500);
        x.addMetal(1);
        Check.due("addMetal(2)", x.addMetal(2), 5);
        whole(x, 0, 6);
        Check.badState(x, "addMetal(0) to 6", () -> x.addMetal(0));
        Check.badArgument(x, "addMetal(MIN) to 6", () -> x.addMetal(MIN));
    }

    private static void promise3() {
        RodGrids x = oneRod();
        Check.noSuch(x, "setStretch(2, 0)", () -> x.setStretch(2, 0));
        Check.noSuch(x, "setStretch(-1, 501)", () -> x.setStretch(-1, 501));
        Check.badArgument(x, "setStretch(0, 501)", () -> x.setStretch(0, 501));
        Check.badArgument(x, "setStretch(1, -1)", () -> x.setStretch(1, -1));
        undoes(x, "setStretch(0, 3)", () -> x.setStretch(0, 3), 115);
        Check.due("setStretch(0, 500)", x.setStretch(0, 500), 115);
        Check.due("setStretch(0, 0)", x.setStretch(0, 0), 500);
        Check.due("balance() then", x.balance(), 0L);
        Check.due("stretch(1)", x.stretch(1), 190);
        undoes(x, "setStretch to the same", () -> x.setStretch(0, 0), 0);
    }

    private static void promise4() {
        RodGrids x = new RodGrids();
        Check.noSuch(x, "addRod(2, 0, 0)", () -> x.addRod(2, 0, 0));
        Check.noSuch(x, "addRod(-1, 1, 1)", () -> x.addRod(-1, 1, 1));
        Check.badArgument(x, "addRod(0, 0, 1)", () -> x.addRod(0, 0, 1));
        Check.badArgument(x, "addRod(0, 2, 1)", () -> x.addRod(0, 2, 1));
        Check.badArgument(x, "addRod(0, -2, 1)", () -> x.addRod(0, -2, 1));
        Check.badArgument(x, "addRod(0, 1, 0)", () -> x.addRod(0, 1, 0));
        Check.badArgument(x, "addRod(0, 1, 1000001)", () -> x.addRod(0, 1, 1000001));
        undoes(x, "addRod(1, -1, 5)", () -> x.addRod(1, -1, 5), 0);
        Check.due("addRod(1, -1, 1)", x.addRod(1, -1, 1), 0);
        for (int rod = 1; rod < 9; rod++) {
            Check.due("addRod", x.addRod(0, 1, 1000000), rod);
        }
        Check.due("rod(0, 0)", x.rod(0, 0), 1);
        Check.due("rod(0, 1)", x.rod(0, 1), -1);
        Check.due("rod(8, 2)", x.rod(8, 2), 1000000);
        Check.badState(x, "addRod to 9", () -> x.addRod(0, 1, 1));
        Check.badArgument(x, "addRod(0, 3, 1) to 9", () -> x.addRod(0, 3, 1));
        Check.noSuch(x, "addRod(6, 1, 1) to 9", () -> x.addRod(6, 1, 1));
    }

    private static void promise5() {
        RodGrids x = threeRods();
        Check.noSuch(x, "removeRod(3)", () -> x.removeRod(3));
        Check.noSuch(x, "removeRod(-1)", () -> x.removeRod(-1));
        undoes(x, "removeRod(1)", () -> x.removeRod(1), 2);
        Check.due("removeRod(0)", x.removeRod(0), 2);
        Check.due("rod(0, 2)", x.rod(0, 2), 600000);
        Check.due("rod(0, 1)", x.rod(0, 1), -1);
        Check.due("rod(1, 0)", x.rod(1, 0), 0);
        Check.due("rod(1, 2)", x.rod(1, 2), 794000);
        Check.noSuch(x, "rod(2, 0)", () -> x.rod(2, 0));
        Check.due("removeRod(1)", x.removeRod(1), 1);
        Check.due("removeRod(0)", x.removeRod(0), 0);
        Check.noSuch(x, "removeRod(0) of none", () -> x.removeRod(0));
        for (int rod = 0; rod < 9; rod++) {
            x.addRod(0, 1, 100 + rod);
        }
        Check.due("removeRod(8) of 9", x.removeRod(8), 8);
        x.addRod(0, 1, 108);
        Check.due("removeRod(0) of 9", x.removeRod(0), 8);
        Check.due("rod(7, 2)", x.rod(7, 2), 108);
    }

    private static void promise6() {
        RodGrids x = threeRods();
        Check.noSuch(x, "setLength(3, 0)", () -> x.setLength(3, 0));
        Check.noSuch(x, "setLength(MIN, 1)", () -> x.setLength(MIN, 1));
        Check.badArgument(x, "setLength(2, 0)", () -> x.setLength(2, 0));
        Check.badArgument(x, "setLength(2, 1000001)", () -> x.setLength(2, 1000001));
        undoes(x, "setLength(1, 964789)", () -> x.setLength(1, 964789), 600000);
        Check.due("setLength(1, 1)", x.setLength(1, 1), 600000);
        Check.due("setLength(1, 1000000)", x.setLength(1, 1000000), 1);
        Check.due("rod(1, 2)", x.rod(1, 2), 1000000);
    }

    private static void promise7() {
        RodGrids x = new RodGrids();
        Check.noSuch(x, "setShelf(5, 601)", () -> x.setShelf(5, 601));
        Check.noSuch(x, "setShelf(-1, 0)", () -> x.setShelf(-1, 0));
        Check.badArgument(x, "setShelf(4, 601)", () -> x.setShelf(4, 601));
        Check.badArgument(x, "setShelf(0, -301)", () -> x.setShelf(0, -301));
        undoes(x, "setShelf(4, 1)", () -> x.setShelf(4, 1), 200);
        Check.due("setShelf(4, 600)", x.setShelf(4, 600), 200);
        Check.due("setShelf(4, -300)", x.setShelf(4, -300), 600);
        Check.due("shelf(4)", x.shelf(4), -300);
        Check.due("shelf(3)", x.shelf(3), 200);
        whole(x, 3, 200);
    }

    private static void promise8() {
        RodGrids x = new RodGrids();
        Check.noSuch(x, "hang(5)", () -> x.hang(5));
        Check.noSuch(x, "hang(-1)", () -> x.hang(-1));
        undoes(x, "hang(2)", () -> x.hang(2), 0);
        Check.due("hang(4)", x.hang(4), 0);
        Check.due("hang(4) again", x.hang(4), 4);
        whole(x, 2, 4);
    }

    private static void promise9() {
        RodGrids x = new RodGrids();
        Check.badArgument(x, "turnNut(1001)", () -> x.turnNut(1001));
        Check.badArgument(x, "turnNut(-1001)", () -> x.turnNut(-1001));
        Check.badState(x, "turnNut(501)", () -> x.turnNut(501));
        Check.badState(x, "turnNut(-501)", () -> x.turnNut(-501));
        undoes(x, "turnNut(33)", () -> x.turnNut(33), 33);
        Check.due("turnNut(500)", x.turnNut(500), 500);
        whole(x, 8, 5000);
        Check.badArgument(x, "turnNut(MAX) at 500", () -> x.turnNut(MAX));
        Check.badState(x, "turnNut(1) at 500", () -> x.turnNut(1));
        Check.due("turnNut(-1000)", x.turnNut(-1000), -500);
        whole(x, 4, -500);
        Check.due("turnNut(1000)", x.turnNut(1000), 500);
    }

    private static void promise10() {
        RodGrids x = oneRod();
        x.pass(100);
        whole(x, 5, 92);
        undoes(x, "wind()", () -> x.wind(), 92);
        Check.due("wind()", x.wind(), 92);
        Check.due("wind() again", x.wind(), 192);
        x.pass(200);
        Check.due("wind() of one that stands", x.wind(), 0);
        whole(x, 5, 192);
    }

    private static void promise11() {
        RodGrids x = new RodGrids();
        int[][] wrong = {{0, 99999}, {0, 2000001}, {1, 0}, {1, 25}, {2, -1}, {2, 101}, {-1, 5}, {3, 5}, {MIN, 1}, {MAX, 1}};
        for (int[] w : wrong) {
            Check.badArgument(x, "set(" + w[0] + ", " + w[1] + ")", () -> x.set(w[0], w[1]));
        }
        int[][] edges = {{0, 100000, 2000000, 994000}, {1, 1, 24, 4}, {2, 0, 100, 20}};
        for (int[] e : edges) {
            RodGrids y = new RodGrids();
            undoes(y, "set " + e[0], () -> y.set(e[0], e[1]), e[3]);
            Check.due("set least", x.set(e[0], e[1]), e[3]);
            Check.due("set most", x.set(e[0], e[2]), e[1]);
            whole(x, 13 + e[0], e[2]);
        }
        whole(x, 6, 124);
        whole(x, 7, 25370);
    }

    private static void promise12() {
        RodGrids x = oneRod();
        x.setShelf(1, 210);
        x.hang(1);
        // 10 / 4 is 2, then 8 / 4, 6 / 4 is 1, 5 / 4, 4 / 4, and 1 toward the shelf where the floor is 0.
        int[] warmths = {202, 204, 205, 206, 207, 208, 209, 210, 210};
        for (int warmth : warmths) {
            x.pass(1);
            whole(x, 3, warmth);
        }
        whole(x, 10, 9);
        whole(x, 11, 9);
        whole(x, 5, 183);
        // At 200 the length is nominal, so the rate is minus the loss.
        RodGrids y = oneRod();
        Check.due("pass(1)", y.pass(1), -134);
        Check.due("rates()", y.rates(), -3194L);
        // The drive was 192 in the first hour alone: arc 44, then 43.
        Check.due("pass(1) again", y.pass(1), -261);
        Check.due("rates() again", y.rates(), -3194L - 3050L);
        undoes(y, "pass(500)", () -> y.pass(500), (int) Math.floorDiv(y.rates() + y.changeWithin(500), 24L));
        y.pass(500);
        whole(y, 5, 0);
        whole(y, 11, 192);
        whole(y, 12, 310);
        long sum = y.rates();
        y.pass(24);
        Check.due("rates() of one that stands", y.rates(), sum);
    }

    private static void promise12ColdShelf() {
        RodGrids x = oneRod();
        x.setShelf(0, 190);
        // -10 / 4 is -3, -7 / 4 is -2, -5 / 4 is -2, -3 / 4 is -1 and so on.
        int[] warmths = {197, 195, 193, 192, 191, 190, 190};
        for (int warmth : warmths) {
            x.pass(1);
            whole(x, 3, warmth);
        }
        x.set(1, 1);
        x.setShelf(0, -300);
        x.pass(1);
        whole(x, 3, -300);
        x.set(1, 24);
        x.setShelf(0, 600);
        x.pass(1);
        whole(x, 3, -263);
    }

    private static void promise12Limits() {
        RodGrids x = new RodGrids();
        Check.badArgument(x, "pass(0)", () -> x.pass(0));
        Check.badArgument(x, "pass(501)", () -> x.pass(501));
        Check.badArgument(x, "pass(MIN)", () -> x.pass(MIN));
        x.turnNut(-500);
        x.set(0, 100000);
        x.set(2, 0);
        for (int i = 0; i < 199; i++) {
            x.pass(500);
            x.wind();
        }
        Check.due("pass(499)", x.pass(499) > 0, true);
        whole(x, 10, 99999);
        Check.badState(x, "pass(2) at 99999", () -> x.pass(2));
        Check.badArgument(x, "pass(501) at 99999", () -> x.pass(501));
        x.pass(1);
        whole(x, 10, 100000);
        Check.badState(x, "pass(1) at 100000", () -> x.pass(1));
        Check.due("changeWithin(1) at 100000", x.changeWithin(1) == 0, true);
        x.wind();
        // length -5000, so 43200000 * 105000 / 100000, minus floor(24 * 24 * 165 / 100).
        Check.due("changeWithin(1) at 100000, wound", x.changeWithin(1), 45360000L - 950L);
        errorRange(1, 2000000000);
        errorRange(-1, -1999999999);
    }

    /** Rates of minus or plus a thousand million make the error leave the range within 60 hours. */
    private static void errorRange(int direction, int want) {
        RodGrids x = new RodGrids();
        x.set(0, 100000);
        for (int rod = 0; rod < 9; rod++) {
            x.addRod(0, -direction, 1000000);
        }
        Check.due("rate", x.whole(9), direction * 1000000000 - 3194);
        x.pass(47);
        Check.due("pass(13)", x.pass(13), want);
        Check.due("rates() then", Math.abs(x.rates()) > 59000000000L, true);
    }

    private static void promise13() {
        RodGrids x = threeRods();
        Check.noSuch(x, "rod(3, 0)", () -> x.rod(3, 0));
        Check.noSuch(x, "rod(-1, 5)", () -> x.rod(-1, 5));
        Check.badArgument(x, "rod(0, 5)", () -> x.rod(0, 5));
        Check.badArgument(x, "rod(2, -1)", () -> x.rod(2, -1));
        x.set(1, 1);
        x.setShelf(0, 313);
        x.pass(1);
        // floor(600000 * 190 * 113 / 100000000) is floor(128.82).
        int[] want = {1, -1, 600000, 128, 600128};
        for (int what = 0; what < 5; what++) {
            Check.due("rod(1, " + what + ")", x.rod(1, what), want[what]);
        }
        x.setShelf(0, 87);
        x.pass(1);
        Check.due("rod(1, 3) in the cold", x.rod(1, 3), -129);
        Check.due("rod(1, 4) in the cold", x.rod(1, 4), 599871);
        x.setLength(1, 1000000);
        x.setStretch(1, 500);
        x.setShelf(0, 600);
        x.pass(1);
        Check.due("rod(1, 3) at most", x.rod(1, 3), 2000);
    }

    private static void promise14And15() {
        RodGrids x = new RodGrids();
        Check.noSuch(x, "stretch(2)", () -> x.stretch(2));
        Check.noSuch(x, "stretch(-1)", () -> x.stretch(-1));
        x.addMetal(77);
        Check.due("stretch(2)", x.stretch(2), 77);
        Check.noSuch(x, "shelf(5)", () -> x.shelf(5));
        Check.noSuch(x, "shelf(-1)", () -> x.shelf(-1));
        x.setShelf(3, -5);
        Check.due("shelf(3)", x.shelf(3), -5);
        Check.due("shelf(4)", x.shelf(4), 200);
    }

    private static void promise16() {
        RodGrids x = threeRods();
        Check.badArgument(x, "whole(-1)", () -> x.whole(-1));
        Check.badArgument(x, "whole(18)", () -> x.whole(18));
        x.addMetal(1);
        x.setShelf(3, 250);
        x.hang(3);
        x.turnNut(-7);
        x.set(1, 2);
        x.set(2, 11);
        x.set(0, 993000);
        x.pass(100);
        x.pass(200);
        Check.type(x, "wind");
        // length: 800000 + 46 - (600000 + 57) + 794000 + 45 - 70; rate: floor of -958 * 43200000 / 993000, loss 199.
        int[] want = {3, 3, 3, 250, -7, 0, 11, 199, 993964, -42138, 300, 192, 108, 993000, 2, 11, 10, 4};
        want[9] = (int) Math.floorDiv(43200000L * (993000 - 993964), 993000L) - 199;
        for (int what = 0; what < want.length; what++) {
            whole(x, what, want[what]);
        }
    }

    private static void promise17And19() {
        RodGrids x = threeRods();
        Check.due("balance()", x.balance(), 69310000L);
        Check.due("balanceBits()", x.balanceBits(), Float.floatToIntBits(69310000f / 2194000f));
        x.setLength(1, 964789);
        Check.due("balance() nearly matched", x.balance(), 90L);
        Check.due("balanceBits() nearly matched", x.balanceBits(), Float.floatToIntBits(90f / 2558789f));
        x.removeRod(0);
        Check.due("balance() below 0", x.balance(), -91999910L);
        Check.due("balanceBits() below 0", x.balanceBits(), Float.floatToIntBits(-91999910f / 1758789f));
        x.setStretch(0, 0);
        x.setStretch(1, 0);
        Check.due("balanceBits() of 0", x.balanceBits(), 0);
        RodGrids y = new RodGrids();
        y.setStretch(0, 500);
        for (int rod = 0; rod < 9; rod++) {
            y.addRod(0, 1, 999999);
        }
        Check.due("balance() above the ints", y.balance(), 4499995500L);
        Check.due("balanceBits() of 500", y.balanceBits(), Float.floatToIntBits(4499995500f / 8999991f));
        y.setStretch(0, 1);
        Check.due("balanceBits() of 1", y.balanceBits(), 0x3f800000);
        y.setStretch(0, 2);
        Check.due("balanceBits() of 2", y.balanceBits(), 0x40000000);
    }

    private static void promise18And21() {
        RodGrids x = oneRod();
        Check.due("meanRate() before", (Object) x.meanRate(), (Object) 0.0);
        x.pass(1);
        Check.due("rates()", x.rates(), -3194L);
        Check.due("meanRate()", (Object) x.meanRate(), (Object) (-3194.0));
        x.pass(2);
        Check.due("rates() of 3", x.rates(), -9294L);
        Check.due("meanRate() of 3", (Object) x.meanRate(), (Object) (-9294.0 / 3.0));
        x.pass(300);
        Check.due("meanRate() of one that stood", (Object) x.meanRate(), (Object) (x.rates() / 192.0));
        RodGrids y = oneRod();
        y.setLength(0, 900000);
        y.pass(23);
        Check.due("meanRate() is no floor", (Object) y.meanRate(), (Object) ((double) y.rates() / 23.0));
    }

    private static void promise20() {
        RodGrids x = oneRod();
        Check.badArgument(x, "day(-1, 0)", () -> x.day(-1, 0));
        Check.badArgument(x, "day(0, 4)", () -> x.day(0, 4));
        Check.badArgument(x, "day(MAX, -1)", () -> x.day(MAX, -1));
        x.pass(23);
        Check.due("day(0, 0) before", x.day(0, 0), -2000000000L);
        x.pass(1);
        // The drive is 168 then: arc 41, loss 2773.
        Check.due("day(0, 0)", x.day(0, 0), 200L);
        Check.due("day(0, 1)", x.day(0, 1), -2773L);
        Check.due("day(0, 2)", x.day(0, 2), x.rates());
        Check.due("day(0, 3)", x.day(0, 3), 24L);
        Check.due("day(1, 3)", x.day(1, 3), -2000000000L);
        long first = x.rates();
        x.setShelf(0, 240);
        x.pass(30);
        Check.due("day(0, 0) of 2", x.day(0, 0), 240L);
        Check.due("day(1, 0) of 2", x.day(1, 0), 200L);
        Check.due("day(1, 2) of 2", x.day(1, 2), first);
        x.pass(126);
        x.wind();
        x.pass(12);
        // It was wound in time, at 12 hours left.
        whole(x, 16, 8);
        Check.due("day(0, 3) of 8", x.day(0, 3), 24L);
        x.pass(180);
        x.pass(36);
        whole(x, 16, 10);
        Check.due("day(0, 3) of one that stood", x.day(0, 3), 0L);
        Check.due("day(0, 2) of one that stood", x.day(0, 2), 0L);
        Check.due("day(0, 1) of one that stood", x.day(0, 1), (long) x.whole(9));
        Check.due("day(1, 3) of one that stood from noon", x.day(1, 3), 12L);
        Check.due("day(9, 3)", x.day(9, 3), 24L);
        Check.due("day(10, 3)", x.day(10, 3), -2000000000L);
        Check.due("day(MAX, 3)", x.day(MAX, 3), -2000000000L);
    }

    private static void promise22() {
        RodGrids x = oneRod();
        Check.badArgument(x, "rateAt(601)", () -> x.rateAt(601));
        Check.badArgument(x, "rateAt(-301)", () -> x.rateAt(-301));
        Check.due("rateAt(200)", x.rateAt(200), -3194);
        // Stretching 114 and, in the cold, floor(-114.31) = -115: floor(-4954.5) and floor(4997.98).
        Check.due("rateAt(300)", x.rateAt(300), -4955 - 3194);
        Check.due("rateAt(100)", x.rateAt(100), 4997 - 3194);
        Check.due("rateAt(600)", x.rateAt(600), (int) Math.floorDiv(-43200000L * 457, 994000L) - 3194);
        Check.due("rateAt(-300)", x.rateAt(-300), (int) Math.floorDiv(43200000L * 572, 994000L) - 3194);
        x.setShelf(0, 300);
        x.set(1, 1);
        x.pass(1);
        Check.due("rateAt(300) there", x.rateAt(300), x.whole(9));
        RodGrids y = new RodGrids();
        y.set(0, 100000);
        y.set(2, 100);
        for (int rod = 0; rod < 9; rod++) {
            y.addRod(0, 1, 1000000);
        }
        Check.due("rateAt(0) at the end of its range", y.rateAt(0), -1000000000 - 25370);
    }

    private static void promise23() {
        RodGrids x = threeRods();
        Check.noSuch(x, "matchLength(3)", () -> x.matchLength(3));
        Check.noSuch(x, "matchLength(-1)", () -> x.matchLength(-1));
        // (800000 + 794000) * 115 / 190 is 964789.47.
        Check.due("matchLength(1)", x.matchLength(1), 964789);
        // 600000 * 190 / 115 - 794000 is 197304.3.
        Check.due("matchLength(0)", x.matchLength(0), 197304);
        x.setLength(1, 1000000);
        x.setLength(0, 1000000);
        x.setLength(2, 1000000);
        Check.due("matchLength(1) at most", x.matchLength(1), 1000000);
        x.setLength(1, 1);
        Check.due("matchLength(0) at least", x.matchLength(0), 1);
        x.setStretch(1, 0);
        Check.due("matchLength(1) where all are alike", x.matchLength(1), 1);
        RodGrids y = new RodGrids();
        y.setStretch(0, 5);
        y.setStretch(1, 2);
        y.addRod(0, 1, 3);
        y.addRod(1, -1, 9);
        Check.due("matchLength(1) between 7 and 8", y.matchLength(1), 7);
        y.setStretch(1, 4);
        Check.due("matchLength(1) above 3.75", y.matchLength(1), 4);
        y.setStretch(1, 1);
        Check.due("matchLength(1) of the stretch 1", y.matchLength(1), 15);
        y.setStretch(1, 15);
        Check.due("matchLength(1) of 1", y.matchLength(1), 1);
    }

    private static void promise24() {
        RodGrids x = oneRod();
        // Rate 0 needs floor(-43200000 * 10 * nut / 994000) = 3194, nearest at nut -7: 3042 - 3194; -8: 3476 - 3194.
        Check.due("bestNut()", x.bestNut(), -7);
        Check.due("bestNut() changes nothing", x.whole(4), 0);
        x.setLength(0, 1000000);
        Check.due("bestNut() at least", x.bestNut(), -500);
        x.setLength(0, 900000);
        Check.due("bestNut() at most", x.bestNut(), 500);
        RodGrids y = new RodGrids();
        Check.due("bestNut() without rods", y.bestNut(), 500);
        y.set(0, 100000);
        for (int rod = 0; rod < 9; rod++) {
            y.addRod(0, -1, 1000000);
        }
        Check.due("bestNut() where all are alike", y.bestNut(), -500);
        x.setLength(0, 994007);
        x.set(2, 0);
        x.pass(400);
        // Without a loss: at nut -1 floor(43200000 * 3 / 994000) is 130, at nut 0 floor(-43200000 * 7 / 994000) -305.
        Check.due("bestNut() of 994007", x.bestNut(), -1);
        x.setLength(0, 993995);
        // 5 too short: 217 at nut 0, -218 at nut 1.
        Check.due("bestNut() of 993995", x.bestNut(), 0);
        // Without a loss and with 432 for each micrometer: 2160 at nut 0 and -2160 at nut 1.
        x.set(0, 100000);
        x.setLength(0, 99995);
        Check.due("bestNut() of two that are alike", x.bestNut(), 0);
        x.setLength(0, 95001);
        Check.due("bestNut() of -432 at 500", x.bestNut(), 500);
        x.setLength(0, 95009);
        Check.due("bestNut() of 432 at 499", x.bestNut(), 499);
        x.setLength(0, 104999);
        Check.due("bestNut() of 432 at -500", x.bestNut(), -500);
    }

    private static void promise25() {
        RodGrids x = oneRod();
        Check.badArgument(x, "rangeOfRates(5, 4)", () -> x.rangeOfRates(5, 4));
        Check.badArgument(x, "rangeOfRates(-301, 0)", () -> x.rangeOfRates(-301, 0));
        Check.badArgument(x, "rangeOfRates(0, 601)", () -> x.rangeOfRates(0, 601));
        Check.badArgument(x, "rangeOfRates(601, 601)", () -> x.rangeOfRates(601, 601));
        Check.due("rangeOfRates(200, 200)", x.rangeOfRates(200, 200), 0);
        Check.due("rangeOfRates(200, 209)", x.rangeOfRates(200, 209), 0);
        Check.due("rangeOfRates(200, 210)", x.rangeOfRates(200, 210), x.rateAt(200) - x.rateAt(210));
        Check.due("rangeOfRates(100, 305)", x.rangeOfRates(100, 305), 4997 + 4955);
        Check.due("rangeOfRates(-300, 600)", x.rangeOfRates(-300, 600), x.rateAt(-300) - x.rateAt(600));
        Check.due("rangeOfRates(600, 600)", x.rangeOfRates(600, 600), 0);
        x.addRod(1, -1, 1000000);
        Check.due("rangeOfRates where it gains", x.rangeOfRates(-300, 599), x.rateAt(590) - x.rateAt(-300));
    }

    private static void promise26() {
        RodGrids x = threeRods();
        Check.badArgument(x, "changeWithin(-1)", () -> x.changeWithin(-1));
        Check.badArgument(x, "changeWithin(501)", () -> x.changeWithin(501));
        Check.due("changeWithin(0)", x.changeWithin(0), 0L);
        x.setShelf(0, 555);
        x.pass(3);
        long before = x.digest();
        long sum = x.rates();
        long some = x.changeWithin(7);
        long all = x.changeWithin(500);
        Check.due("changeWithin changes nothing", x.digest(), before);
        x.pass(7);
        Check.due("changeWithin(7)", some, x.rates() - sum);
        x.pass(493);
        Check.due("changeWithin(500)", all, x.rates() - sum);
        Check.due("changeWithin(500) of one that stands", x.changeWithin(500), 0L);
    }

    private static void promise27And28() {
        RodGrids x = new RodGrids();
        Check.due("clearCommands() of none", x.clearCommands(), 0);
        Check.badArgument(x, "type(-1)", () -> x.type(-1));
        Check.badArgument(x, "type(128)", () -> x.type(128));
        for (int i = 1; i <= 150; i++) {
            Check.due("type", x.type(i % 128), i);
        }
        whole(x, 17, 150);
        Check.badState(x, "type(0) to 150", () -> x.type(0));
        Check.badArgument(x, "type(200) to 150", () -> x.type(200));
        Check.badState(x, "undo() behind type", () -> x.undo());
        Check.due("clearCommands()", x.clearCommands(), 150);
        whole(x, 17, 0);
        Check.badState(x, "undo() behind clearCommands", () -> x.undo());
        Check.due("type(127)", x.type(127), 1);
    }

    private static void promise29Words() {
        RodGrids x = new RodGrids();
        String all = "metal 77;down 2 5000;up 0 0001000; cut 0 6000 ;warm 1 250;cold 2 30;hang 1;nut 20;back 5;"
                + "set 1 2;pass 3;  wind ;pass 0000001;  ";
        Check.due("runCommands()", Check.run(x, all), 13);
        whole(x, 17, all.length());
        Check.due("stretch(2)", x.stretch(2), 77);
        Check.due("rod(0, 2)", x.rod(0, 2), 6000);
        Check.due("rod(0, 0)", x.rod(0, 0), 2);
        Check.due("rod(0, 1)", x.rod(0, 1), 1);
        Check.due("rod(1, 0)", x.rod(1, 0), 0);
        Check.due("rod(1, 1)", x.rod(1, 1), -1);
        Check.due("rod(1, 2)", x.rod(1, 2), 1000);
        Check.due("shelf(1)", x.shelf(1), 250);
        Check.due("shelf(2)", x.shelf(2), -30);
        whole(x, 2, 1);
        whole(x, 4, 15);
        whole(x, 14, 2);
        whole(x, 10, 4);
        whole(x, 5, 191);
        long after = x.digest();
        Check.due("undo() of a run", x.undo(), 0);
        whole(x, 0, 2);
        whole(x, 10, 0);
        whole(x, 17, all.length());
        Check.due("runCommands() once more", x.runCommands(), 13);
        Check.due("digest() once more", x.digest(), after);
        Check.due("runCommands() of 150 bytes", Check.run(x, "wind;".repeat(30)), 30);
    }

    private static void promise29Faults() {
        String[] texts = {"", "   ", ";", "x;", "wind", "wind ", "wind;;", "windy;", "win", "wind5;", "wind 5;", " Wind;",
            "down", "down;", "down ;", "down 1;", "down 1 ;", "down 1 2", "down 1 2 3;", "down1 2;", "nut 12345678;",
            "nut 1234567", "nut -1;", "nut 1x;", "nut 1 x;", "nut#", "nu#", "nut 00000001;", "pass 1; undo;", "pass 1;wind",
            "a1;", "pass 1;pas", "set 1  2 ;  @", "metal 1,", "\0", "nut 1;\u007f", "down 1234567 12345678;",
            "nut ;x;", "windz;", "hangs 1;", "nut 1 ", "nut  ", " wind;  ", "nut 1\t;", "NUT 1;", "{;", "`;", "nut /;", "nut :;",
            "nut 0" + " ".repeat(145), "wind;".repeat(29) + "nut 1"};
        int[] faults = {-1, -1, 0, 0, 4, 5, 5, 0, 0, 4, 5, 1,
            4, 4, 5, 6, 7, 8, 9, 4, 11,
            11, 4, 5, 6, 3, 0, 11, 8, 11,
            0, 7, 12, 7, 0, 6, 20,
            4, 0, 0, 6, 5, -1, 5, 0, 0, 0, 4, 4,
            150, 150};
        for (int i = 0; i < texts.length; i++) {
            RodGrids x = new RodGrids();
            int want = faults[i] >= 0 ? -10 - faults[i] : texts[i].isBlank() ? 0 : 1;
            Check.due("runCommands() of \"" + texts[i] + "\"", Check.run(x, texts[i]), want);
            Check.due("undo() behind \"" + texts[i] + "\"", Check.outcome(() -> x.undo()),
                    faults[i] < 0 ? (Object) 0 : "throws.IllegalStateException");
            whole(x, 10, 0);
        }
        RodGrids y = new RodGrids();
        Check.due("runCommands() of a long text", Check.run(y, "nut 12;"), 1);
        Check.due("runCommands() of its front", Check.run(y, "nut 1"), -15);
        Check.due("runCommands() of its front with a space", Check.run(y, "nut "), -14);
        Check.due("runCommands() of its word", Check.run(y, "nut"), -13);
        Check.due("runCommands() of a front of its word", Check.run(y, "nu"), -10);
    }

    private static void promise29Stops() {
        String[] texts = {"nut 1;metal 501;wind;", "nut 1;down 2 1;", "nut 1;up 0 0;", "nut 1;cut 0 1;", "nut 1;warm 5 0;",
            "nut 1;warm 0 601;", "nut 1;cold 0 301;", "nut 1;hang 5;", "nut 1;nut 500;", "nut 1;back 502;",
            "nut 1;nut 1001;", "nut 1;set 3 1;", "nut 1;set 0 9999999;", "nut 1;pass 0;", "nut 1;pass 501;"};
        for (String text : texts) {
            RodGrids x = new RodGrids();
            Check.due("runCommands() of " + text, Check.run(x, text), 1);
            whole(x, 4, 1);
            Check.due("undo() behind " + text, x.undo(), 0);
            whole(x, 4, 0);
        }
        RodGrids y = new RodGrids();
        Check.due("runCommands() of a late stop", Check.run(y, "pass 1;nut 3;pass 501;nut 4;"), 2);
        whole(y, 10, 1);
        whole(y, 4, 3);
        for (int i = 0; i < 199; i++) {
            y.pass(500);
        }
        Check.due("runCommands() to the last hour", Check.run(y, "pass 499;pass 1;"), 1);
        whole(y, 10, 100000);
        Check.due("runCommands() that saves", Check.run(y, "pass 1;"), 0);
        Check.due("undo()", y.undo(), 3);
        whole(y, 10, 100000);
    }

    private static void promise30() {
        RodGrids x = oneRod();
        Check.due("undo()", x.undo(), 0);
        whole(x, 1, 0);
        Check.badState(x, "undo() of none", () -> x.undo());
        for (int i = 1; i <= 7; i++) {
            x.turnNut(i);
        }
        Check.due("undo() to 21", x.undo(), 3);
        whole(x, 4, 21);
        x.turnNut(100);
        Check.due("undo() to 21 again", x.undo(), 3);
        whole(x, 4, 21);
        forget(x, 3);
        whole(x, 4, 6);
        Check.badState(x, "undo() of dropped ones", () -> x.undo());
        x.addRod(0, 1, 990000);
        x.pass(100);
        long sum = x.rates();
        long day = x.day(0, 2);
        x.setShelf(0, 10);
        x.pass(500);
        Check.type(x, "wind;");
        x.undo();
        x.undo();
        Check.due("rates() behind undo", x.rates(), sum);
        Check.due("day(0, 2) behind undo", x.day(0, 2), day);
        whole(x, 16, 4);
        whole(x, 17, 5);
        Check.due("shelf(0) behind undo", x.shelf(0), 200);
        x.pass(20);
        Check.due("day(1, 2) behind undo", x.day(1, 2), day);
        Check.due("day(0, 2) of a day begun before undo", x.day(0, 2),
                x.rates() - day - x.day(2, 2) - x.day(3, 2) - x.day(4, 2));
        Check.due("day(0, 3) of it", x.day(0, 3), 24L);
    }

    private static void promise31() {
        RodGrids x = new RodGrids();
        long[] values = {0, 2, 0, 0, 200, 0, 192, 44, 3194, 0, 43196806, 0, 0, 0, 994000, 4, 20, 0, 0, 0, 0, 0, 115, 190,
            200, 200, 200, 200, 200, 500};
        Check.due("digest() of a new one", x.digest(), hashOf(values));
        x.addRod(0, -1, 1000);
        x.pass(24);
        x.type(32);
        long[] then = {2, 2, 1, 0, 200, 0, 168, 41, 2773, -1000, x.whole(9), 24, 24, 0, 994000, 4, 20, 1, 1,
            -115000, x.rates(), Float.floatToIntBits(-115f), 115, 190, 200, 200, 200, 200, 200,
            0, -1, 1000, 0, 1000, 200, x.whole(9), x.rates(), 24, 500};
        Check.due("digest() then", x.digest(), hashOf(then));
    }

    private static long hashOf(long[] values) {
        long hash = 43239;
        for (long value : values) {
            hash = 31 * hash + value;
        }
        return hash;
    }
}
