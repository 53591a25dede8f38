/** How RoundRows is used: README.md shows this program, and what it prints. */
public final class Example {
    private static final String TEXT = "step 10;\n"
            + "measure heat gauge silence 30 most 100;\n"
            + "measure water counter 8 16 silence 30;\n"
            + "archive mean 1 by 6 share 0;\n"
            + "archive most 2 by 4 share 5;\n"
            + "forecast heat season 2 by 8 0 8 band 2;\n"
            + "show both = heat + water or heat;\n";

    public static void main(String[] args) {
        RoundRows x = new RoundRows();

        // storing: a text is fed to the tape, then stored; a fault leaves all as it was
        put(x, "step 0;");
        tell("store of a text that can't be", x.store());
        tell("its fault, a number", x.fault(0));
        tell("the fault's place", x.fault(1));
        put(x, TEXT);
        tell("store of a good text: measures", x.store());

        // reading: so much later, a number of each measure
        tell("steps over by a reading", x.read(10, 20, 250, 0, 0));
        x.read(10, 22, 4, 0, 0);
        x.read(10, 21, 14, 0, 0);
        x.read(15, 500, 20, 0, 0);

        // asking: all that is measured is told in thousandths
        tell("time", x.about(5));
        tell("heat's rate, above most", x.rate(0));
        tell("water's rate", x.rate(1));
        tell("heat's value of the latest step", x.value(0));
        tell("heat's row ahead of it", x.row(0, 0, 1));
        tell("the other archive's latest row", x.row(1, 0, 0));
        tell("water used from 10 to 40", x.total(0, 1, 10, 40));
        tell("heat and water, or heat", x.show(0, 0, 1));
        tell("heat's forecast of the second step from now", x.ahead(0, 2));
        tell("least number that water can have 5 later", x.fits(5, 1));

        // turning a bound, taking acts back, keeping all in a box
        tell("heat's most was", x.turn(0, 2, 600));
        tell("its box's time", x.image(0));
        tell("a reading within it", x.read(5, 500, 30, 0, 0));
        tell("heat's rate", x.rate(0));
        tell("taken back", x.undo() ? 1 : 0);
        tell("heat's rate", x.rate(0));
        tell("back from the box: time", x.back(0));
        tell("heat's most", x.measure(0, 2));
    }

    /** Puts a text on the empty tape: twenty bytes a call, then the text's length. */
    private static void put(RoundRows x, String text) {
        for (int at = 0; at < text.length(); at += 20) {
            x.feed(four(text, at), four(text, at + 4), four(text, at + 8), four(text, at + 12), four(text, at + 16));
        }
        x.end(text.length());
    }

    /** Four bytes in a number, the first one highest. */
    private static int four(String text, int at) {
        int number = 0;
        for (int i = at; i < at + 4; i++) {
            number = number << 8 | (i < text.length() ? text.charAt(i) : ' ');
        }
        return number;
    }

    private static void tell(String what, long answer) {
        System.out.println(what + ": " + (answer == RoundRows.UNKNOWN ? "UNKNOWN" : answer));
    }
}
