/** Promises 22 to 26: the alignment of a trace. */
public final class AlignmentsTest {
    private static final String INDEX = "IndexOutOfBoundsException";
    private static final String ARGUMENT = "IllegalArgumentException";
    private static final String STATE = "IllegalStateException";

    private static int wrong = 0;

    private interface Call {
        Object answer();
    }

    /** The due answer is a value, or the name of the exception that is due. */
    private static void due(String what, Object want, Call call) {
        Object got;
        try {
            got = call.answer();
        } catch (RuntimeException e) {
            got = e.getClass().getSimpleName();
        }
        if (!want.equals(got)) {
            wrong++;
            System.out.println(what + " answered " + got + ", due is " + want);
        }
    }

    /** One token goes from place to place; each row is {label, from, to}. */
    private static TraceAligner net(int places, int last, int[]... transitions) {
        TraceAligner x = new TraceAligner();
        for (int p = 0; p < places; p++) {
            x.addPlace();
        }
        x.setTokens(0, 1, false);
        x.setTokens(last, 1, true);
        for (int t = 0; t < transitions.length; t++) {
            x.addTransition(transitions[t][0]);
            x.link(t, transitions[t][1], true, true);
            x.link(t, transitions[t][2], false, true);
        }
        return x;
    }

    private static int trace(TraceAligner x, int... labels) {
        for (int label : labels) {
            x.event(label);
        }
        return x.store(1);
    }

    /** Each row of moves is {kind, transition, label, marking}. */
    private static void dueAlignment(String name, TraceAligner x, int trace, int cost, int[]... moves) {
        due(name + ": cost", cost, () -> x.cost(trace));
        due(name + ": moves", moves.length, () -> x.moves(trace));
        for (int i = 0; i < moves.length; i++) {
            int move = i;
            for (int j = 0; j < 4; j++) {
                int what = j;
                due(name + ": move(" + trace + ", " + i + ", " + j + ")", moves[i][j], () -> x.move(trace, move, what));
            }
        }
        due(name + ": no more moves", ARGUMENT, () -> x.move(trace, moves.length, 0));
    }

    private static TraceAligner row() {
        return net(3, 2, new int[] {0, 0, 1}, new int[] {1, 1, 2});
    }

    private static void testRow() {
        TraceAligner x = row();
        trace(x, 0, 1);
        trace(x, 1, 0);
        trace(x);
        trace(x, 5, 0, 0, 1, 2);
        dueAlignment("as the model", x, 0, 0, new int[] {0, 0, 0, 0}, new int[] {0, 1, 1, 1});
        // TRACE comes ahead of MODEL: another alignment with the same costs starts with MODEL.
        dueAlignment("turned round", x, 1, 2,
                new int[] {1, -1, 1, 0}, new int[] {0, 0, 0, 0}, new int[] {2, 1, -1, 1});
        dueAlignment("empty trace", x, 2, 2, new int[] {2, 0, -1, 0}, new int[] {2, 1, -1, 1});
        // BOTH comes ahead of TRACE: the first 0 is the one that fires.
        dueAlignment("too much", x, 3, 3, new int[] {1, -1, 5, 0}, new int[] {0, 0, 0, 0},
                new int[] {1, -1, 0, 1}, new int[] {0, 1, 1, 1}, new int[] {1, -1, 2, 2});
        due("worst as the model", 4, () -> x.worst(0));
        due("worst of the empty trace", 2, () -> x.worst(2));
        due("worst of too much", 7, () -> x.worst(3));
        due("fitness as the model", 1.0, () -> x.fitness(0));
        due("fitness turned round", 0.5, () -> x.fitness(1));
        due("fitness of the empty trace", 0.0, () -> x.fitness(2));
        due("fitness of too much", 1.0 - 3.0 / 7.0, () -> x.fitness(3));
    }

    private static void testCosts() {
        TraceAligner x = row();
        trace(x, 1, 0);
        x.setLabelCost(1, 4);
        // Now it is better that 1 fires, and 0 is the label that is passed.
        dueAlignment("dear label", x, 0, 2,
                new int[] {2, 0, -1, 0}, new int[] {0, 1, 1, 1}, new int[] {1, -1, 0, 2});
        due("worst with a dear label", 7, () -> x.worst(0));
        x.setCost(0, 9);
        dueAlignment("dear transition", x, 0, 5,
                new int[] {1, -1, 1, 0}, new int[] {0, 0, 0, 0}, new int[] {2, 1, -1, 1});
        due("worst with a dear transition", 15, () -> x.worst(0));
        due("fitness with a dear transition", 1.0 - 5.0 / 15.0, () -> x.fitness(0));
        x.setLabelCost(0, 0);
        x.setLabelCost(1, 0);
        x.setCost(0, 0);
        x.setCost(1, 0);
        // All costs are 0: the least number of moves is left, and then the order.
        dueAlignment("no costs", x, 0, 0,
                new int[] {1, -1, 1, 0}, new int[] {0, 0, 0, 0}, new int[] {2, 1, -1, 1});
        due("worst without costs", 0, () -> x.worst(0));
        due("fitness without costs", 1.0, () -> x.fitness(0));
    }

    private static void testBothCostsNothing() {
        TraceAligner x = row();
        trace(x, 0, 1);
        x.setLabelCost(0, 0);
        x.setLabelCost(1, 0);
        x.setCost(0, 9);
        x.setCost(1, 9);
        dueAlignment("BOTH costs nothing", x, 0, 0, new int[] {0, 0, 0, 0}, new int[] {0, 1, 1, 1});
        due("its worst", 18, () -> x.worst(0));
    }

    private static void testFewerMovesFirst() {
        TraceAligner x = net(3, 2, new int[] {-1, 0, 1}, new int[] {-1, 1, 2}, new int[] {-1, 0, 2});
        trace(x);
        dueAlignment("one silent move, not two", x, 0, 0, new int[] {2, 2, -1, 0});
        x.setCost(2, 1);
        dueAlignment("costs ahead of moves", x, 0, 0, new int[] {2, 0, -1, 0}, new int[] {2, 1, -1, 1});
        x.setCost(1, 2);
        dueAlignment("the lesser cost", x, 0, 1, new int[] {2, 2, -1, 0});
    }

    private static void testCostsAheadOfManyMoves() {
        TraceAligner x = new TraceAligner();
        for (int p = 0; p < 8; p++) {
            x.addPlace();
        }
        x.setTokens(0, 3, false);
        x.setTokens(7, 3, true);
        for (int t = 0; t < 7; t++) {
            x.addTransition(-1);
            x.link(t, t, true, true);
            x.link(t, t + 1, false, true);
        }
        trace(x);
        due("three tokens in a row: markings", 120, () -> x.markings());
        due("three tokens in a row: cost", 0, () -> x.cost(0));
        due("three tokens in a row: moves", 21, () -> x.moves(0));
        for (int i = 0; i < 21; i++) {
            int move = i;
            due("three tokens in a row: move " + i, i / 3, () -> x.move(0, move, 1));
            due("three tokens in a row: kind " + i, 2, () -> x.move(0, move, 0));
        }
        due("three tokens in a row: marking ahead of the last", 118, () -> x.move(0, 20, 3));
        due("three tokens in a row: fitness", 1.0, () -> x.fitness(0));
        x.addTransition(-1);
        x.link(7, 0, true, true);
        x.link(7, 7, false, true);
        x.setCost(7, 1);
        due("a way of cost 1 beside it: cost", 0, () -> x.cost(0));
        due("a way of cost 1 beside it: moves", 21, () -> x.moves(0));
        x.setCost(3, 9);
        due("then it is the better one: cost", 3, () -> x.cost(0));
        due("then it is the better one: moves", 3, () -> x.moves(0));
        due("then it is the better one: worst", 3, () -> x.worst(0));
        due("then it is the better one: fitness", 0.0, () -> x.fitness(0));
    }

    private static void testSmallerTransitionsFirst() {
        TraceAligner x = net(4, 3, new int[] {0, 0, 1}, new int[] {0, 0, 2}, new int[] {1, 2, 3},
                new int[] {1, 1, 3}, new int[] {1, 1, 3});
        trace(x, 0, 1);
        trace(x);
        dueAlignment("BOTH", x, 0, 0, new int[] {0, 0, 0, 0}, new int[] {0, 3, 1, 1});
        dueAlignment("MODEL", x, 1, 2, new int[] {2, 0, -1, 0}, new int[] {2, 3, -1, 1});
        x.link(3, 3, false, false);
        x.link(4, 3, false, false);
        dueAlignment("BOTH that leads on", x, 0, 0, new int[] {0, 1, 0, 0}, new int[] {0, 2, 1, 2});
        dueAlignment("MODEL that leads on", x, 1, 2, new int[] {2, 1, -1, 0}, new int[] {2, 2, -1, 2});
    }

    private static void testBothAheadOfModel() {
        // The silent transition stays where it is, and costs nothing, but is a move.
        TraceAligner x = net(2, 1, new int[] {-1, 0, 0}, new int[] {0, 0, 1});
        trace(x, 0);
        dueAlignment("no needless move", x, 0, 0, new int[] {0, 1, 0, 0});
        // From place 0 or 1, label 0 leads to 2 or to 3: BOTH and MODEL, or MODEL and BOTH.
        TraceAligner y = net(4, 3, new int[] {0, 0, 1}, new int[] {0, 1, 3}, new int[] {0, 0, 2}, new int[] {0, 2, 3});
        trace(y, 0);
        dueAlignment("BOTH ahead of MODEL", y, 0, 1, new int[] {0, 0, 0, 0}, new int[] {2, 1, -1, 1});
        y.setCost(1, 2);
        y.setCost(3, 2);
        dueAlignment("MODEL when it is less", y, 0, 1, new int[] {2, 0, -1, 0}, new int[] {0, 1, 0, 1});
    }

    private static void testSilentIsNeverBoth() {
        TraceAligner x = net(2, 1, new int[] {-1, 0, 1});
        trace(x, 0);
        dueAlignment("silent", x, 0, 1, new int[] {1, -1, 0, 0}, new int[] {2, 0, -1, 0});
        due("silent: worst", 1, () -> x.worst(0));
    }

    private static void testLongTrace() {
        TraceAligner x = net(1, 0, new int[] {3, 0, 0});
        trace(x, 3, 3, 3, 3, 3, 3, 3, 3);
        trace(x, 5, 4, 3, 2, 1, 0, 5, 4);
        for (int label = 0; label < 6; label++) {
            x.setLabelCost(label, 9);
        }
        due("8 of one label: cost", 0, () -> x.cost(0));
        due("8 of one label: moves", 8, () -> x.moves(0));
        due("8 of one label: worst", 72, () -> x.worst(0));
        due("8 of one label: fitness", 1.0, () -> x.fitness(0));
        due("8 labels: cost", 63, () -> x.cost(1));
        due("8 labels: moves", 8, () -> x.moves(1));
        due("8 labels: the one that fires", 0, () -> x.move(1, 2, 0));
        due("8 labels: the last one", 4, () -> x.move(1, 7, 2));
        due("8 labels: fitness", 1.0 - 63.0 / 72.0, () -> x.fitness(1));
    }

    private static void testModelMovesToReachEachLabel() {
        // A ring of 8 places; only the way from the last one back to the first has a label.
        TraceAligner x = net(8, 0, new int[] {-1, 0, 1}, new int[] {-1, 1, 2}, new int[] {-1, 2, 3},
                new int[] {-1, 3, 4}, new int[] {-1, 4, 5}, new int[] {-1, 5, 6}, new int[] {-1, 6, 7},
                new int[] {2, 7, 0});
        trace(x, 2, 2, 2, 2, 2, 2, 2, 2);
        due("ring: cost", 0, () -> x.cost(0));
        due("ring: moves", 64, () -> x.moves(0));
        for (int i = 0; i < 64; i++) {
            int move = i;
            due("ring: kind " + i, i % 8 == 7 ? 0 : 2, () -> x.move(0, move, 0));
            due("ring: transition " + i, i % 8, () -> x.move(0, move, 1));
            due("ring: label " + i, i % 8 == 7 ? 2 : -1, () -> x.move(0, move, 2));
            due("ring: marking " + i, i % 8, () -> x.move(0, move, 3));
        }
        x.setLabelCost(2, 0);
        due("ring without label costs: moves", 8, () -> x.moves(0));
        due("ring without label costs: kind", 1, () -> x.move(0, 0, 0));
    }

    private static void testTwoHundredMarkings() {
        TraceAligner x = new TraceAligner();
        int[] first = {2, 3, 3, 3, 1};
        int[] inputs = {8, 16, 6, 1};
        int[] outputs = {17, 0, 0, 0};
        for (int p = 0; p < 5; p++) {
            x.addPlace();
            x.setTokens(p, first[p], false);
            x.setTokens(p, p == 0 ? 0 : first[p], true);
        }
        for (int t = 0; t < 4; t++) {
            x.addTransition(t);
            for (int p = 0; p < 5; p++) {
                x.link(t, p, true, (inputs[t] >> p & 1) == 1);
                x.link(t, p, false, (outputs[t] >> p & 1) == 1);
            }
        }
        due("200 markings", 200, () -> x.markings());
        // The last marking comes when transition 3 fires twice.
        trace(x, 3, 3);
        trace(x, 3, 3, 3, 3, 3, 3, 3, 3);
        trace(x, 5, 5, 5, 5, 5, 5, 5, 5);
        trace(x, 0, 3);
        due("200 markings: as the model", 0, () -> x.cost(0));
        due("200 markings: 6 too many", 6, () -> x.cost(1));
        due("200 markings: the first ones fire", 0, () -> x.move(1, 1, 0));
        due("200 markings: the others are passed", 1, () -> x.move(1, 2, 0));
        due("200 markings: nothing fits", 10, () -> x.cost(2));
        due("200 markings: worst", 10, () -> x.worst(2));
        due("200 markings: one fits", 2, () -> x.cost(3));
    }

    private static void testNoAlignment() {
        TraceAligner x = row();
        trace(x, 0, 1);
        due("before: cost", 0, () -> x.cost(0));
        x.setTokens(2, 2, true);
        due("no alignment: cost", -1, () -> x.cost(0));
        due("no alignment: moves", -1, () -> x.moves(0));
        due("no alignment: worst", -1, () -> x.worst(0));
        due("no alignment: fitness", 0.0, () -> x.fitness(0));
        for (int move = -2; move < 3; move++) {
            int m = move;
            due("no alignment: move " + m, ARGUMENT, () -> x.move(0, m, 0));
        }
        x.setTokens(2, 1, true);
        due("again: cost", 0, () -> x.cost(0));
    }

    private static void testNoNet() {
        TraceAligner x = new TraceAligner();
        trace(x);
        trace(x, 4);
        dueAlignment("no net, empty trace", x, 0, 0);
        due("no net, empty trace: worst", 0, () -> x.worst(0));
        due("no net, empty trace: fitness", 1.0, () -> x.fitness(0));
        dueAlignment("no net", x, 1, 1, new int[] {1, -1, 4, 0});
        due("no net: worst", 1, () -> x.worst(1));
        due("no net: fitness", 0.0, () -> x.fitness(1));
    }

    private static void testWrongArguments() {
        TraceAligner x = row();
        trace(x, 0, 1);
        for (int bad : new int[] {-1, 1, 8, Integer.MIN_VALUE, Integer.MAX_VALUE}) {
            due("cost(" + bad + ")", INDEX, () -> x.cost(bad));
            due("moves(" + bad + ")", INDEX, () -> x.moves(bad));
            due("move(" + bad + ", 0, 0)", INDEX, () -> x.move(bad, 0, 0));
            due("move(" + bad + ", 9, 9)", INDEX, () -> x.move(bad, 9, 9));
            due("worst(" + bad + ")", INDEX, () -> x.worst(bad));
            due("fitness(" + bad + ")", INDEX, () -> x.fitness(bad));
        }
        for (int bad : new int[] {-1, 2, 16, Integer.MIN_VALUE, Integer.MAX_VALUE}) {
            due("move(0, " + bad + ", 0)", ARGUMENT, () -> x.move(0, bad, 0));
        }
        for (int bad : new int[] {-1, 4, Integer.MIN_VALUE, Integer.MAX_VALUE}) {
            due("move(0, 0, " + bad + ")", ARGUMENT, () -> x.move(0, 0, bad));
        }
    }

    private static void testTooMany() {
        TraceAligner x = new TraceAligner();
        for (int i = 0; i < 4; i++) {
            x.addPlace();
            x.addTransition(0);
            x.link(i, i, false, true);
        }
        trace(x, 0);
        due("too many: cost", STATE, () -> x.cost(0));
        due("too many: moves", STATE, () -> x.moves(0));
        due("too many: move", STATE, () -> x.move(0, 0, 0));
        due("too many: move that is not", STATE, () -> x.move(0, -1, 9));
        due("too many: worst", STATE, () -> x.worst(0));
        due("too many: fitness", STATE, () -> x.fitness(0));
        for (int bad : new int[] {-1, 1}) {
            due("too many: cost(" + bad + ")", INDEX, () -> x.cost(bad));
            due("too many: moves(" + bad + ")", INDEX, () -> x.moves(bad));
            due("too many: move(" + bad + ", 0, 0)", INDEX, () -> x.move(bad, 0, 0));
            due("too many: worst(" + bad + ")", INDEX, () -> x.worst(bad));
            due("too many: fitness(" + bad + ")", INDEX, () -> x.fitness(bad));
        }
        x.link(0, 0, false, false);
        due("fewer again: cost", 0, () -> x.cost(0));
        due("fewer again: transition", 0, () -> x.move(0, 0, 1));
    }

    private static void testChangesAreSeen() {
        TraceAligner x = row();
        trace(x, 0, 1);
        trace(x, 0);
        due("before: cost(0)", 0, () -> x.cost(0));
        due("before: cost(1)", 1, () -> x.cost(1));
        x.link(1, 2, false, false);
        due("link off: cost", -1, () -> x.cost(0));
        x.link(1, 2, false, true);
        due("link on: cost", 0, () -> x.cost(0));
        x.setTokens(1, 1, true);
        due("last set: cost", -1, () -> x.cost(0));
        x.setTokens(1, 0, true);
        x.setTokens(0, 2, false);
        due("first set: cost", -1, () -> x.cost(0));
        x.setTokens(0, 1, false);
        due("as before: cost(1)", 1, () -> x.cost(1));
        x.addTransition(-1);
        x.link(2, 1, true, true);
        x.link(2, 2, false, true);
        due("silent transition added: cost(1)", 0, () -> x.cost(1));
        x.setCost(2, 5);
        due("transition cost: cost(1)", 1, () -> x.cost(1));
        x.setCost(1, 4);
        due("other transition cost: cost(1)", 4, () -> x.cost(1));
        due("dropTrace", 1, () -> x.dropTrace());
        trace(x, 3, 3);
        due("another trace in its place, costs as before: cost(1)", 7, () -> x.cost(1));
        x.setLabelCost(3, 2);
        due("another trace in its place: cost(1)", 9, () -> x.cost(1));
        x.setLabelCost(3, 0);
        due("label cost: cost(1)", 5, () -> x.cost(1));
        x.addPlace();
        due("place added: cost(1)", 5, () -> x.cost(1));
    }

    public static void main(String[] args) {
        testRow();
        testCosts();
        testBothCostsNothing();
        testFewerMovesFirst();
        testCostsAheadOfManyMoves();
        testSmallerTransitionsFirst();
        testBothAheadOfModel();
        testSilentIsNeverBoth();
        testLongTrace();
        testModelMovesToReachEachLabel();
        testTwoHundredMarkings();
        testNoAlignment();
        testNoNet();
        testWrongArguments();
        testTooMany();
        testChangesAreSeen();
        System.out.println("AlignmentsTest: " + wrong + " answers are not as due");
        if (wrong != 0) System.exit(1);
    }
}
