/** Promises 27 to 29: the judgement by all traces. */
public final class AllTracesTest {
    private static final String INDEX = "IndexOutOfBoundsException";
    private static final String STATE = "IllegalStateException";

    private static int wrong = 0;

    private interface Call {
        Object answer();
    }

    /** The due answer is a value, or the name of the exception that is due. */
    private static void due(String what, Object want, Call call) {
        Object got;
        try {
            got = call.answer();
        } catch (RuntimeException e) {
            got = e.getClass().getSimpleName();
        }
        if (!want.equals(got)) {
            wrong++;
            System.out.println(what + " answered " + got + ", due is " + want);
        }
    }

    /** From place 0 to 1 and 2 (label 0); 1 to 3 (label 1); 2 to 4 (label 2); 3 and 4 to 5 (label 3). */
    private static TraceAligner fork() {
        TraceAligner x = new TraceAligner();
        int[] inputs = {1, 2, 4, 24};
        int[] outputs = {6, 8, 16, 32};
        for (int p = 0; p < 6; p++) {
            x.addPlace();
        }
        for (int t = 0; t < 4; t++) {
            x.addTransition(t);
            for (int p = 0; p < 6; p++) {
                x.link(t, p, true, (inputs[t] >> p & 1) == 1);
                x.link(t, p, false, (outputs[t] >> p & 1) == 1);
            }
        }
        x.setTokens(0, 1, false);
        x.setTokens(5, 1, true);
        return x;
    }

    private static void trace(TraceAligner x, int times, int... labels) {
        for (int label : labels) {
            x.event(label);
        }
        x.store(times);
    }

    private static void dueTotals(String name, TraceAligner x, int kind, int... totals) {
        for (int i = 0; i < totals.length; i++) {
            int which = i;
            due(name + ": total(" + kind + ", " + i + ")", totals[i], () -> x.total(kind, which));
        }
    }

    private static TraceAligner forkWithTraces() {
        TraceAligner x = fork();
        trace(x, 5, 0, 1, 2, 3);
        trace(x, 2, 0, 2, 1, 3);
        trace(x, 3, 0, 3);
        trace(x, 1, 4);
        trace(x, 0, 5, 5);
        return x;
    }

    private static void testTotals() {
        TraceAligner x = forkWithTraces();
        dueTotals("fork", x, 0, 10, 7, 7, 10);
        dueTotals("fork", x, 1, 0, 0, 0, 0, 1, 0);
        dueTotals("fork", x, 2, 1, 4, 4, 1);
        x.event(5);
        x.event(4);
        x.event(5);
        x.store(99);
        due("fork: a label twice, 99 times", 198, () -> x.total(1, 5));
        due("fork: another label, 99 times", 100, () -> x.total(1, 4));
        due("fork: its transitions", 100, () -> x.total(2, 0));
        x.dropTrace();
        due("fork: dropped again", 0, () -> x.total(1, 5));
    }

    private static void testTotalsWithoutAlignments() {
        TraceAligner x = fork();
        dueTotals("no traces", x, 0, 0, 0, 0, 0);
        trace(x, 4, 0, 1, 5);
        x.setTokens(4, 1, true);
        dueTotals("no alignments", x, 0, 0, 0, 0, 0);
        dueTotals("no alignments", x, 1, 0, 0, 0, 0, 0, 0);
        dueTotals("no alignments", x, 2, 0, 0, 0, 0);
    }

    private static void testWrongTotals() {
        TraceAligner x = forkWithTraces();
        for (int bad : new int[] {-1, 3, Integer.MIN_VALUE, Integer.MAX_VALUE}) {
            due("total(" + bad + ", 0)", INDEX, () -> x.total(bad, 0));
        }
        for (int bad : new int[] {-1, 4, 10, Integer.MIN_VALUE, Integer.MAX_VALUE}) {
            due("total(0, " + bad + ")", INDEX, () -> x.total(0, bad));
            due("total(2, " + bad + ")", INDEX, () -> x.total(2, bad));
        }
        for (int bad : new int[] {-1, 6, Integer.MIN_VALUE, Integer.MAX_VALUE}) {
            due("total(1, " + bad + ")", INDEX, () -> x.total(1, bad));
        }
        for (int i = 4; i < 10; i++) {
            x.addTransition(-1);
        }
        due("more transitions than labels", 0, () -> x.total(2, 9));
        due("a label all the same", INDEX, () -> x.total(1, 9));
    }

    private static void testAllFitness() {
        TraceAligner x = forkWithTraces();
        due("fork: allFitness", 1.0 - 11.0 / 79.0, () -> x.allFitness());
        x.setLabelCost(4, 9);
        due("fork with a dear label: allFitness", 1.0 - 19.0 / 87.0, () -> x.allFitness());
        x.setTokens(4, 1, true);
        due("no alignments: allFitness", 1.0, () -> x.allFitness());
    }

    private static void testAllFitnessAtItsEdges() {
        TraceAligner x = fork();
        due("no traces: allFitness", 1.0, () -> x.allFitness());
        trace(x, 0, 5);
        due("no times: allFitness", 1.0, () -> x.allFitness());
        trace(x, 7);
        due("an empty trace: allFitness", 0.0, () -> x.allFitness());
        trace(x, 1, 0, 1, 2, 3);
        due("and one that fits: allFitness", 1.0 - 28.0 / 36.0, () -> x.allFitness());
        TraceAligner y = new TraceAligner();
        trace(y, 3);
        due("all worst costs are 0: allFitness", 1.0, () -> y.allFitness());
    }

    private static void testPrecision() {
        TraceAligner x = forkWithTraces();
        due("fork: precision", 1.0, () -> x.precision());
        TraceAligner y = fork();
        due("no traces: precision", 1.0, () -> y.precision());
        trace(y, 5, 0, 1, 2, 3);
        due("one order was never seen: precision", 4.0 / 5.0, () -> y.precision());
        trace(y, 0, 0, 2, 1, 3);
        due("nor with times: precision", 4.0 / 5.0, () -> y.precision());
        y.dropTrace();
        trace(y, 1, 0, 2, 1, 3);
        due("now it was seen: precision", 1.0, () -> y.precision());
        y.setTokens(4, 1, true);
        due("no alignments: precision", 1.0, () -> y.precision());
    }

    private static void testPrecisionCountsTimes() {
        // Place 0 has three transitions; 0 stays, 1 leads to place 1, 2 to place 2. The end is in place 1.
        TraceAligner x = new TraceAligner();
        int[][] ways = {{0, 0}, {0, 1}, {0, 2}, {1, 1}};
        for (int p = 0; p < 3; p++) {
            x.addPlace();
        }
        for (int t = 0; t < 4; t++) {
            x.addTransition(t);
            x.link(t, ways[t][0], true, true);
            x.link(t, ways[t][1], false, true);
        }
        x.setTokens(0, 1, false);
        x.setTokens(1, 1, true);
        trace(x, 2, 1);
        // 2 visits each of marking 0 (3 can fire, 1 did) and of the end (1 can fire, none did).
        due("one way: precision", 2.0 / 8.0, () -> x.precision());
        trace(x, 3, 0, 0, 1);
        // 9 visits more of marking 0, of whose transitions 2 did fire now, and 3 of the end.
        due("a marking visited again: precision", 22.0 / 38.0, () -> x.precision());
        trace(x, 10, 4, 1, 5);
        // What is passed by TRACE is no visit: 10 visits each of marking 0 and of the end.
        due("TRACE is no visit: precision", 42.0 / 78.0, () -> x.precision());
        trace(x, 1);
        // MODEL is a visit.
        due("MODEL is a visit: precision", 44.0 / 82.0, () -> x.precision());
        trace(x, 1, 1, 3);
        // Transition 3 fired at the end, so that it counts for each visit there: 18.
        due("fired at the end: precision", 64.0 / 87.0, () -> x.precision());
        x.dropTrace();
        trace(x, 0, 1, 3);
        due("without times nothing fires: precision", 44.0 / 82.0, () -> x.precision());
    }

    private static void testPrecisionAtTheEnd() {
        TraceAligner x = new TraceAligner();
        trace(x, 1);
        due("nothing can fire: precision", 1.0, () -> x.precision());
        x.addTransition(0);
        due("only the end is visited: precision", 0.0, () -> x.precision());
        trace(x, 1, 0);
        due("and the transition fires: precision", 1.0, () -> x.precision());
        x.addTransition(1);
        due("another one does not: precision", 0.5, () -> x.precision());
    }

    private static void testDroppedTracesDoNotCount() {
        TraceAligner x = fork();
        trace(x, 5, 0, 1, 2, 3);
        trace(x, 2, 0, 2, 1, 3, 5);
        due("both: total", 2, () -> x.total(1, 5));
        due("both: allFitness", 1.0 - 2.0 / 58.0, () -> x.allFitness());
        due("both: precision", 1.0, () -> x.precision());
        x.dropTrace();
        due("one dropped: total", 0, () -> x.total(1, 5));
        due("one dropped: allFitness", 1.0, () -> x.allFitness());
        due("one dropped: precision", 0.8, () -> x.precision());
    }

    private static void testEightTraces() {
        TraceAligner x = fork();
        for (int i = 0; i < 8; i++) {
            trace(x, i == 7 ? 99 : 1, 0, 5, 5, 1, 5, 5, 2, 3);
        }
        due("8 traces: total", 4 * 106, () -> x.total(1, 5));
        due("8 traces: allFitness", 1.0 - 424.0 / 1272.0, () -> x.allFitness());
        due("8 traces: precision", 0.8, () -> x.precision());
    }

    private static void testShorterAlignmentsLeaveNothingBehind() {
        TraceAligner x = fork();
        trace(x, 3);
        due("4 moves: total", 3, () -> x.total(2, 3));
        x.addTransition(-1);
        x.link(4, 0, true, true);
        x.link(4, 5, false, true);
        for (int t = 0; t < 4; t++) {
            int which = t;
            due("1 move: total(2, " + t + ")", 0, () -> x.total(2, which));
        }
        due("1 move: total(2, 4)", 3, () -> x.total(2, 4));
        due("1 move: precision", 0.5, () -> x.precision());
    }

    private static void testTooMany() {
        TraceAligner x = new TraceAligner();
        due("total without transitions", INDEX, () -> x.total(0, 0));
        due("total of a label without transitions", 0, () -> x.total(1, 5));
        for (int i = 0; i < 4; i++) {
            x.addPlace();
            x.addTransition(0);
            x.link(i, i, false, true);
        }
        due("too many: total", STATE, () -> x.total(0, 0));
        due("too many: total of a label", STATE, () -> x.total(1, 5));
        due("too many: wrong kind", INDEX, () -> x.total(3, 0));
        due("too many: wrong transition", INDEX, () -> x.total(2, 4));
        due("too many: wrong label", INDEX, () -> x.total(1, 6));
        due("too many: allFitness", STATE, () -> x.allFitness());
        due("too many: precision", STATE, () -> x.precision());
    }

    public static void main(String[] args) {
        testTotals();
        testTotalsWithoutAlignments();
        testWrongTotals();
        testAllFitness();
        testAllFitnessAtItsEdges();
        testPrecision();
        testPrecisionCountsTimes();
        testPrecisionAtTheEnd();
        testDroppedTracesDoNotCount();
        testEightTraces();
        testShorterAlignmentsLeaveNothingBehind();
        testTooMany();
        System.out.println("AllTracesTest: " + wrong + " answers are not as due");
        if (wrong != 0) System.exit(1);
    }
}
