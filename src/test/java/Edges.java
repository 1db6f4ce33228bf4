import java.util.ArrayList;
import java.util.List;

/**
 * Tests that each quote a sentence of the document, or the part of one that names a boundary, and what such tests
 * share: calls that must be refused, saved for undo, or leave everything as it is.
 */
final class Edges {
    interface Test {
        void run();
    }

    interface Setup {
        void on(RodGrids x);
    }

    interface Act {
        Object on(RodGrids x);
    }

    static final String NO_SUCH = "IndexOutOfBoundsException";
    static final String BAD_ARGUMENT = "IllegalArgumentException";
    static final String BAD_STATE = "IllegalStateException";
    static final int MIN = Integer.MIN_VALUE;
    static final int MAX = Integer.MAX_VALUE;
    static final long NONE = -2000000000L;

    /** Heading and quote of each test. */
    private static final List<String[]> QUOTES = new ArrayList<>();
    private static String heading = "";

    private Edges() {
    }

    static void section(String name) {
        heading = name;
    }

    static void says(String quote, Test test) {
        QUOTES.add(new String[] {heading, quote});
        Check.about(heading + ", \"" + quote + "\": ");
        try {
            test.run();
        } catch (RuntimeException e) {
            Check.due("a call that must not throw", "throws." + e.getClass().getSimpleName(), "an answer");
        }
        Check.about("");
    }

    /** Every quote must stand in the document, and every sentence but those set apart must be quoted. */
    static void compareWith(Doc doc, List<String> setApart) {
        for (String[] quote : QUOTES) {
            Check.due("DOC.md says in \"" + quote[0] + "\": " + quote[1], doc.says(quote[0], quote[1]), true);
        }
        for (String section : doc.headings()) {
            for (String sentence : doc.sentences(section)) {
                boolean isTested = isQuoted(section, sentence) || isSetApart(setApart, section, sentence);
                Check.due("a test quotes \"" + sentence + "\" of \"" + section + "\"", isTested, true);
            }
        }
    }

    private static boolean isQuoted(String section, String sentence) {
        for (String[] quote : QUOTES) {
            if (quote[0].equals(section) && sentence.contains(quote[1])) {
                return true;
            }
        }
        return false;
    }

    private static boolean isSetApart(List<String> setApart, String section, String sentence) {
        for (String start : setApart) {
            if ((section + ": " + sentence).startsWith(start)) {
                return true;
            }
        }
        return false;
    }

    static RodGrids bench(Setup setup) {
        RodGrids x = new RodGrids();
        setup.on(x);
        return x;
    }

    /** A command text, and four saved states of which each is another one: what is dropped or added then shows. */
    static void makeBusy(RodGrids x) {
        if (x.whole(17) == 0) {
            Check.type(x, "wind;set 2 3;");
        }
        int shelf = x.whole(2);
        for (int i = 1; i <= 3; i++) {
            x.hang((shelf + i) % 5);
        }
        x.hang(shelf);
    }

    private static RodGrids variant(Setup setup, boolean isBusy) {
        RodGrids x = bench(setup);
        if (isBusy) {
            makeBusy(x);
        }
        return x;
    }

    /** The call throws this, with few saved states and with four, and changes nothing. */
    static void refused(Setup setup, String call, String exception, Act act) {
        still(setup, call, act, "throws." + exception);
    }

    /** The call has this outcome, with few saved states and with four, and changes nothing. */
    static void still(Setup setup, String call, Act act, Object want) {
        for (int i = 0; i < 4; i++) {
            boolean isBusy = i % 2 == 1;
            boolean isUndone = i / 2 == 1;
            RodGrids x = variant(setup, isBusy);
            Check.due(call, Check.outcome(() -> act.on(x)), want);
            Check.due("what stands behind " + call, story(x, isUndone), story(variant(setup, isBusy), isUndone));
        }
    }

    /** The call has this answer, and saves the one state from before it, with few saved states and with four. */
    static void undoable(Setup setup, String call, Act act, Object want) {
        for (int i = 0; i < 4; i++) {
            boolean isBusy = i % 2 == 1;
            boolean isUndone = i / 2 == 1;
            RodGrids x = variant(setup, isBusy);
            Check.due(call, Check.outcome(() -> act.on(x)), want);
            // Where four states were saved, any other call drops the oldest of them, too.
            RodGrids due = variant(setup, isBusy);
            due.wind();
            Check.due("undo() behind " + call, Check.outcome(() -> x.undo()), due.undo());
            Check.due("what stands behind undo of " + call, story(x, isUndone), story(due, isUndone));
        }
    }

    /** What later calls show of a bench: by way back through all saved states, or by the text and the hours to come. */
    private static List<Object> story(RodGrids x, boolean isUndone) {
        List<Object> told = new ArrayList<>();
        told.add(x.digest());
        for (int i = 0; i < 5 && isUndone; i++) {
            told.add(Check.outcome(() -> x.undo()));
            told.add(x.digest());
        }
        for (int hours = 7; hours < 30 && !isUndone; hours += 10) {
            int some = hours;
            told.add(Check.outcome(() -> x.runCommands()));
            told.add(Check.outcome(() -> x.pass(some)));
            told.add(x.digest());
        }
        return told;
    }

    static void whole(RodGrids x, int what, int want) {
        Check.due("whole(" + what + ")", x.whole(what), want);
    }

    /** Brings the pendulum to a warmth within an hour. */
    static void warmTo(RodGrids x, int warmth) {
        x.set(1, 1);
        x.setShelf(x.whole(2), warmth);
        x.pass(1);
    }

    /** Lets any number of hours pass, in calls of at most 500. */
    static void passAll(RodGrids x, int hours) {
        for (int rest = hours; rest > 0; rest -= 500) {
            x.pass(Math.min(rest, 500));
        }
    }

    static void addRods(RodGrids x, int count, int direction, int length) {
        for (int i = 0; i < count; i++) {
            x.addRod(0, direction, length);
        }
    }

    /** One rod that is as long as the nominal length at the warmth 200: the rate is minus the loss. */
    static void oneRod(RodGrids x) {
        x.addRod(0, 1, 994000);
    }

    /** A bench whose rate is 432 for each micrometer that it is too short, without a loss once the drive is below 8. */
    static void plainRate(RodGrids x) {
        x.set(0, 100000);
        x.set(2, 0);
        x.pass(185);
    }
}
