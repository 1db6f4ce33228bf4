import java.io.IOException;
import java.util.Arrays;
import java.util.List;

/** The boundaries that the document names, a test for each sentence, and whether no sentence was left out. */
public final class EdgeTests {
    /** Sections and sentences that name no boundary of what the calls answer. */
    private static final List<String> SET_APART = Arrays.asList("What it is: A bench", "What it is: An object", "The public face: ",
            "Not promised: ", "Terms: All numbers are whole", "Terms: Lengths are in micrometers", "Terms: METALS AND RODS",
            "Terms: THE PENDULUM", "Terms: SHELVES", "Terms: AN HOUR", "Terms: TEXTS OF COMMANDS", "Terms: UNDO",
            "Terms: EXCEPTIONS", "Terms: Ahead of the calls");

    private EdgeTests() {
    }

    public static void main(String[] args) throws IOException {
        TermsEdges.run();
        GridEdges.run();
        BenchEdges.run();
        ValueEdges.run();
        WhatIfEdges.run();
        TextEdges.run();
        UndoEdges.run();
        Edges.compareWith(new Doc(), SET_APART);
        Check.end("EdgeTests");
    }
}
