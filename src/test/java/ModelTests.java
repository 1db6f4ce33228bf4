import java.util.Random;

/** Random runs of at most 512 calls, from fixed seeds, on the class and on the model: every answer must be the same. */
public final class ModelTests {
    private static final int RUNS = 200;
    private static final int CALLS = 500;
    private static final String[] WORDS = {"metal", "down", "up", "cut", "warm", "cold", "hang", "nut", "back",
        "wind", "set", "pass"};
    private static final int[] EXTREMES = {Integer.MIN_VALUE, Integer.MAX_VALUE, -1, 0, 1, -2000000000, 1000000000};

    private final Random random;
    private final RodGrids bench = new RodGrids();
    private final Model model = new Model();
    /** How often this run calls pass, asks for the dear values, and goes wrong. */
    private final int passWeight;
    private final int wildness;

    private ModelTests(long seed) {
        random = new Random(seed);
        passWeight = 1 + random.nextInt(12);
        wildness = 4 + random.nextInt(40);
    }

    /** Two numbers may be given, for other runs than those of CI: the first seed and how many there are. */
    public static void main(String[] args) {
        int first = args.length == 2 ? Integer.parseInt(args[0]) : 1000;
        int runs = args.length == 2 ? Integer.parseInt(args[1]) : RUNS;
        for (int run = first; run < first + runs; run++) {
            new ModelTests(run).play(run);
        }
        Check.end("ModelTests");
    }

    private void play(int run) {
        for (int call = 0; call < CALLS; call++) {
            String at = "run " + run + ", call " + call + ": ";
            change(at);
            look(at);
            if (call % 10 == 9) {
                Check.due(at + "digest()", bench.digest(), model.digest());
            }
        }
    }

    /** A number from least to most, often at an edge, at times beyond it. */
    private int pick(int least, int most) {
        int kind = random.nextInt(wildness);
        if (kind == 0) {
            return random.nextBoolean() ? least - 1 : most + 1;
        }
        if (kind == 1) {
            return random.nextBoolean() ? least : most;
        }
        if (kind == 2 && random.nextInt(4) == 0) {
            return EXTREMES[random.nextInt(EXTREMES.length)];
        }
        return least + random.nextInt(most - least + 1);
    }

    private int pickRod() {
        return pick(0, Math.max(0, model.whole(1) - 1));
    }

    private int pickMetal() {
        return pick(0, model.whole(0) - 1);
    }

    private int pickDirection() {
        return random.nextInt(wildness) == 0 ? pick(-1, 1) : random.nextBoolean() ? 1 : -1;
    }

    private int pickHours() {
        return random.nextInt(3) == 0 ? pick(1, 500) : pick(1, 40);
    }

    private int pickSetting(int what) {
        switch (what) {
            case 0: return random.nextBoolean() ? pick(100000, 2000000) : pick(990000, 998000);
            case 1: return pick(1, 24);
            default: return pick(0, 100);
        }
    }

    private int pickLength() {
        return random.nextInt(3) == 0 ? pick(1, 100) : random.nextBoolean() ? pick(1, 1000000) : pick(90000, 400000);
    }

    private void change(String at) {
        int kind = random.nextInt(16 + passWeight);
        int a;
        int b;
        int c;
        switch (kind) {
            case 0: a = pick(0, 500); both(at + "addMetal " + a, () -> bench.addMetal(a), () -> model.addMetal(a)); break;
            case 1: a = pickMetal(); b = pick(0, 500);
                both(at + "setStretch " + a + " " + b, () -> bench.setStretch(a, b), () -> model.setStretch(a, b)); break;
            case 2: case 3: a = pickMetal(); b = pickDirection(); c = pickLength();
                both(at + "addRod " + a + " " + b + " " + c, () -> bench.addRod(a, b, c), () -> model.addRod(a, b, c)); break;
            case 4: a = pickRod(); both(at + "removeRod " + a, () -> bench.removeRod(a), () -> model.removeRod(a)); break;
            case 5: a = pickRod(); b = pickLength();
                both(at + "setLength " + a + " " + b, () -> bench.setLength(a, b), () -> model.setLength(a, b)); break;
            case 6: a = pick(0, 4); b = pick(-300, 600);
                both(at + "setShelf " + a + " " + b, () -> bench.setShelf(a, b), () -> model.setShelf(a, b)); break;
            case 7: a = pick(0, 4); both(at + "hang " + a, () -> bench.hang(a), () -> model.hang(a)); break;
            case 8: a = random.nextBoolean() ? pick(-1000, 1000) : pick(-300, 300);
                both(at + "turnNut " + a, () -> bench.turnNut(a), () -> model.turnNut(a)); break;
            case 9: both(at + "wind", () -> bench.wind(), () -> model.wind()); break;
            case 10: a = pick(0, 2); b = pickSetting(a);
                both(at + "set " + a + " " + b, () -> bench.set(a, b), () -> model.set(a, b)); break;
            case 11: case 12: both(at + "undo", () -> bench.undo(), () -> model.undo()); break;
            case 13: case 14: runText(at); break;
            case 15: a = random.nextInt(3) == 0 ? pick(0, 127) : 32 + random.nextInt(95);
                both(at + "type " + a, () -> bench.type(a), () -> model.type(a)); break;
            default: a = pickHours(); both(at + "pass " + a, () -> bench.pass(a), () -> model.pass(a)); break;
        }
    }

    private static void both(String call, Check.Call got, Check.Call want) {
        Check.due(call, Check.outcome(got), Check.outcome(want));
    }

    private void runText(String at) {
        String text = makeText();
        if (random.nextInt(6) != 0) {
            both(at + "clearCommands", () -> bench.clearCommands(), () -> model.clearCommands());
        }
        for (int i = 0; i < text.length(); i++) {
            int sign = text.charAt(i);
            both(at + "type " + sign, () -> bench.type(sign), () -> model.type(sign));
        }
        both(at + "runCommands of \"" + text + "\"", () -> bench.runCommands(), () -> model.runCommands());
    }

    private String makeText() {
        StringBuilder text = new StringBuilder();
        int commands = random.nextInt(8);
        for (int i = 0; i < commands; i++) {
            addCommand(text);
        }
        for (int faults = random.nextInt(5) - 2; faults > 0 && text.length() > 0; faults--) {
            spoil(text);
        }
        return text.toString();
    }

    private void addCommand(StringBuilder text) {
        String word = WORDS[random.nextInt(WORDS.length)];
        text.append(spaces(0)).append(word);
        switch (word) {
            case "metal": number(text, pick(0, 500)); break;
            case "down": case "up": number(text, pickMetal()); number(text, pickLength()); break;
            case "cut": number(text, pickRod()); number(text, pickLength()); break;
            case "warm": number(text, pick(0, 4)); number(text, pick(0, 600)); break;
            case "cold": number(text, pick(0, 4)); number(text, pick(0, 300)); break;
            case "hang": number(text, pick(0, 4)); break;
            case "nut": case "back": number(text, pick(0, 600)); break;
            case "set": int what = pick(0, 2); number(text, what); number(text, pickSetting(what)); break;
            case "pass": number(text, pickHours()); break;
            default: break;
        }
        text.append(spaces(0)).append(';').append(spaces(0));
    }

    private void number(StringBuilder text, int value) {
        String digits = Integer.toString(Math.abs(value % 10000000));
        text.append(spaces(1));
        for (int zeros = random.nextInt(8) - 3; zeros > 0 && digits.length() + zeros <= 8; zeros--) {
            text.append('0');
        }
        text.append(digits);
    }

    private String spaces(int least) {
        return " ".repeat(least + (random.nextInt(5) == 0 ? random.nextInt(3) : 0));
    }

    private void spoil(StringBuilder text) {
        int place = random.nextInt(text.length());
        String signs = " ;019azdwZ-\n\0#";
        switch (random.nextInt(4)) {
            case 0: text.deleteCharAt(place); break;
            case 1: text.insert(place, signs.charAt(random.nextInt(signs.length()))); break;
            case 2: text.setCharAt(place, signs.charAt(random.nextInt(signs.length()))); break;
            default: text.setLength(place); break;
        }
    }

    private void look(String at) {
        int a = pick(0, 4);
        int b = pickRod();
        int c = pickMetal();
        int w = pick(0, 17);
        both(at + "rod " + b + " " + a, () -> bench.rod(b, a), () -> model.rod(b, a));
        both(at + "stretch " + c, () -> bench.stretch(c), () -> model.stretch(c));
        both(at + "shelf " + a, () -> bench.shelf(a), () -> model.shelf(a));
        both(at + "whole " + w, () -> bench.whole(w), () -> model.whole(w));
        both(at + "balance", () -> bench.balance(), () -> model.balance());
        both(at + "rates", () -> bench.rates(), () -> model.rates());
        both(at + "balanceBits", () -> bench.balanceBits(), () -> model.balanceBits());
        int day = pick(0, 10);
        int what = pick(0, 3);
        both(at + "day " + day + " " + what, () -> bench.day(day, what), () -> model.day(day, what));
        both(at + "meanRate", () -> bench.meanRate(), () -> model.meanRate());
        int t = pick(-300, 600);
        int high = random.nextBoolean() ? pick(-300, 600) : t + random.nextInt(60);
        both(at + "rateAt " + t, () -> bench.rateAt(t), () -> model.rateAt(t));
        both(at + "bestNut", () -> bench.bestNut(), () -> model.bestNut());
        both(at + "rangeOfRates " + t + " " + high, () -> bench.rangeOfRates(t, high),
                () -> model.rangeOfRates(t, high));
        int hours = pick(0, 500);
        if (random.nextInt(10) == 0) {
            both(at + "changeWithin " + hours, () -> bench.changeWithin(hours), () -> model.changeWithin(hours));
        }
        if (random.nextInt(60) == 0) {
            both(at + "matchLength " + b, () -> bench.matchLength(b), () -> model.matchLength(b));
        }
    }
}
