import java.io.IOException;
import java.math.BigInteger;
import java.nio.file.Files;
import java.nio.file.Path;
import java.util.ArrayList;
import java.util.Arrays;
import java.util.HashMap;
import java.util.HashSet;
import java.util.List;
import java.util.Map;
import java.util.Set;

/**
 * Each sentence of the document that names an edge (too small, too large, empty, full, a wrap-around,
 * a refused call) has a test of its own here, in the order of the document; 0 stands for what is
 * written ahead of the promises. At the end the sentences are compared with the document itself, so
 * that none is left out.
 */
public final class EdgesTest {
    private static final String INDEX = "IndexOutOfBoundsException";
    private static final String ARGUMENT = "IllegalArgumentException";
    private static final String STATE = "IllegalStateException";

    private static final Path DOCUMENT = Path.of("../shared/DOC.md");

    private static int wrong = 0;
    private static String current = "";
    private static final Map<Integer, List<String>> TOLD = new HashMap<>();

    private interface Call {
        Object answer();
    }

    private interface Query {
        Object ask(TraceAligner x);
    }

    private interface TraceQuery {
        Object ask(TraceAligner x, int trace);
    }

    private interface Numbered {
        Object ask(int number);
    }

    private interface Maker {
        TraceAligner make();
    }

    // ---- what the tests are written with

    private static void edge(int promise, String sentence, Runnable test) {
        current = "promise " + promise + ", \"" + sentence + "\"";
        TOLD.computeIfAbsent(promise, p -> new ArrayList<>()).add(sentence);
        test.run();
    }

    private static void complain(String text) {
        wrong++;
        System.out.println(current + ": " + text);
    }

    private static Object answer(Call call) {
        try {
            return call.answer();
        } catch (RuntimeException e) {
            return e.getClass().getSimpleName();
        }
    }

    /** The due answer is a value, or the name of the exception that is due. */
    private static void due(String what, Object want, Call call) {
        Object got = answer(call);
        if (!want.equals(got)) {
            complain(what + " answered " + got + ", due is " + want);
        }
    }

    /** Numbers that are not first to last: those beside them, and those that a wrap-around would bring back. */
    private static int[] outside(int first, int last) {
        return new int[] {
            first - 1, last + 1, first - 2, last + 2, first + 257, first + 65537, first - 65535,
            Integer.MIN_VALUE, Integer.MIN_VALUE + last, Integer.MAX_VALUE, Integer.MAX_VALUE - 1
        };
    }

    private static void dueOutside(String what, int first, int last, Object want, Numbered call) {
        for (int bad : outside(first, last)) {
            due(what + " " + bad, want, () -> call.ask(bad));
        }
    }

    private static TraceAligner bare(int places, int transitions) {
        TraceAligner x = new TraceAligner();
        for (int p = 0; p < places; p++) {
            x.addPlace();
        }
        for (int t = 0; t < transitions; t++) {
            x.addTransition(t % 6);
        }
        return x;
    }

    private static void setFirst(TraceAligner x, int... tokens) {
        for (int p = 0; p < tokens.length; p++) {
            x.setTokens(p, tokens[p], false);
        }
    }

    private static void setLast(TraceAligner x, int... tokens) {
        for (int p = 0; p < tokens.length; p++) {
            x.setTokens(p, tokens[p], true);
        }
    }

    private static void linkSet(TraceAligner x, int transition, int places, boolean isInput) {
        for (int p = 0; p < 8; p++) {
            if ((places >> p & 1) == 1) {
                x.link(transition, p, isInput, true);
            }
        }
    }

    /** A net from the tokens of its first marking, and for each transition its label and sets of places. */
    private static TraceAligner net(int[] first, int[] labels, int[] inputs, int[] outputs) {
        TraceAligner x = bare(first.length, 0);
        setFirst(x, first);
        for (int t = 0; t < labels.length; t++) {
            x.addTransition(labels[t]);
            linkSet(x, t, inputs[t], true);
            linkSet(x, t, outputs[t], false);
        }
        return x;
    }

    private static int[] row(int size, int value) {
        int[] row = new int[size];
        Arrays.fill(row, value);
        return row;
    }

    /** One token goes from place 0 by label 0 to place 1, and from there by label 1 to place 2, the last one. */
    private static TraceAligner line() {
        TraceAligner x = net(new int[] {1, 0, 0}, new int[] {0, 1}, new int[] {1, 2}, new int[] {2, 4});
        setLast(x, 0, 0, 1);
        return x;
    }

    /** Each transition puts tokens into a place of its own: 4^4 markings, which are too many. */
    private static TraceAligner tooMany() {
        return net(new int[4], row(4, 0), new int[4], new int[] {1, 2, 4, 8});
    }

    /** Three tokens along four places and three along three others: 20 times 10 markings. */
    private static TraceAligner twoHundred() {
        TraceAligner x = net(new int[] {3, 0, 0, 0, 3, 0, 0}, new int[] {0, 1, 2, 3, 4},
                new int[] {1, 2, 4, 16, 32}, new int[] {2, 4, 8, 32, 64});
        setLast(x, 0, 0, 0, 3, 0, 0, 3);
        return x;
    }

    /** 201 markings, of which the 201st comes when the tenth transition fires in the 200th. */
    private static final int[] JUST_TOO_MANY_FIRST = {3, 2, 3, 2, 1, 0};
    private static final int[] JUST_TOO_MANY_INPUTS = {10, 0, 17, 5, 0, 4, 12, 0, 8, 2};
    private static final int[] JUST_TOO_MANY_OUTPUTS = {16, 6, 14, 9, 35, 16, 5, 5, 11, 0};

    private static TraceAligner justTooMany() {
        return net(JUST_TOO_MANY_FIRST, row(10, 0), JUST_TOO_MANY_INPUTS, JUST_TOO_MANY_OUTPUTS);
    }

    /** The markings of a net in the order in which they are found: the document said again, beside the class. */
    private static List<List<Integer>> found(int[] first, int[] inputs, int[] outputs) {
        List<List<Integer>> found = new ArrayList<>();
        Set<List<Integer>> known = new HashSet<>();
        List<Integer> start = new ArrayList<>();
        for (int tokens : first) {
            start.add(tokens);
        }
        found.add(start);
        known.add(start);
        for (int m = 0; m < found.size(); m++) {
            for (int t = 0; t < inputs.length; t++) {
                List<Integer> behind = behind(found.get(m), inputs[t], outputs[t]);
                if (behind != null && known.add(behind)) {
                    found.add(behind);
                }
            }
        }
        return found;
    }

    private static List<Integer> behind(List<Integer> marking, int inputs, int outputs) {
        List<Integer> behind = new ArrayList<>();
        for (int p = 0; p < marking.size(); p++) {
            int tokens = marking.get(p) - (inputs >> p & 1);
            if (tokens < 0 || tokens + (outputs >> p & 1) > 3) {
                return null;
            }
            behind.add(tokens + (outputs >> p & 1));
        }
        return behind;
    }

    private static int trace(TraceAligner x, int times, int... labels) {
        for (int label : labels) {
            x.event(label);
        }
        return x.store(times);
    }

    /** Each row of moves is {kind, transition, label, marking}. */
    private static void dueAlignment(String name, TraceAligner x, int trace, int cost, int[]... moves) {
        due(name + ": cost", cost, () -> x.cost(trace));
        due(name + ": moves", moves.length, () -> x.moves(trace));
        for (int i = 0; i < moves.length; i++) {
            int move = i;
            for (int j = 0; j < 4; j++) {
                int what = j;
                due(name + ": move(" + trace + ", " + i + ", " + j + ")", moves[i][j], () -> x.move(trace, move, what));
            }
        }
    }

    /**
     * A call that is refused when the net has too many markings, whether it has 201 or more, and
     * answered when it has 200, or fewer again.
     */
    private static void dueWithTooMany(Object wantOfTwoHundred, Query query) {
        for (TraceAligner x : new TraceAligner[] {tooMany(), justTooMany()}) {
            trace(x, 1, 0);
            due("too many", STATE, () -> query.ask(x));
            due("too many, again", STATE, () -> query.ask(x));
        }
        TraceAligner most = twoHundred();
        trace(most, 1, 0);
        due("200 markings", wantOfTwoHundred, () -> query.ask(most));
        TraceAligner fewer = tooMany();
        trace(fewer, 1, 0);
        fewer.markings();
        fewer.link(3, 3, false, false);
        if (STATE.equals(answer(() -> query.ask(fewer)))) {
            complain("still refused with 64 markings");
        }
    }

    /** A call that takes a trace is refused for what is none, be the markings too many or not. */
    private static void dueWithoutSuchTrace(TraceQuery query) {
        TraceAligner x = line();
        due("of trace 0, of none", INDEX, () -> query.ask(x, 0));
        trace(x, 1, 0);
        trace(x, 1, 1);
        dueOutside("of trace", 0, 1, INDEX, n -> query.ask(x, n));
        x.dropTrace();
        due("of a dropped trace", INDEX, () -> query.ask(x, 1));
        TraceAligner full = line();
        for (int i = 0; i < 8; i++) {
            trace(full, 1, i % 6);
        }
        dueOutside("of trace", 0, 7, INDEX, n -> query.ask(full, n));
        if (INDEX.equals(answer(() -> query.ask(full, 7)))) {
            complain("trace 7 of 8 is refused");
        }
        TraceAligner many = tooMany();
        trace(many, 1, 0);
        due("of trace 1 with too many markings", INDEX, () -> query.ask(many, 1));
    }

    /** A call that takes a marking is refused for what is none. */
    private static void dueWithoutSuchMarking(TraceQuery query) {
        TraceAligner none = bare(1, 1);
        dueOutside("the only marking", 0, 0, INDEX, n -> query.ask(none, n));
        TraceAligner x = line();
        dueOutside("three markings", 0, 2, INDEX, n -> query.ask(x, n));
        TraceAligner most = twoHundred();
        dueOutside("200 markings", 0, 199, INDEX, n -> query.ask(most, n));
        for (int good : new int[] {0, 199}) {
            if (INDEX.equals(answer(() -> query.ask(most, good)))) {
                complain("marking " + good + " of 200 is refused");
            }
        }
        setFirst(x, 0);
        due("fewer markings than before", INDEX, () -> query.ask(x, 1));
    }

    /** The moves lead from the beginning to the end, one by one, and cost what the class tells. */
    private static void dueLegal(TraceAligner x, int trace, int[] labelCosts, int[] costs, int... labels) {
        int marking = 0;
        int position = 0;
        int cost = 0;
        for (int i = 0; i < x.moves(trace); i++) {
            int kind = x.move(trace, i, 0);
            int transition = x.move(trace, i, 1);
            int label = x.move(trace, i, 2);
            int ahead = marking;
            int move = i;
            due("the marking ahead of move " + i, ahead, () -> x.move(trace, move, 3));
            if (kind != 2) {
                if (position == labels.length || labels[position] != label) {
                    complain("move " + i + " passes " + label + ", which is not next");
                }
                position++;
            } else if (label != -1) {
                complain("move " + i + " is MODEL and passes " + label);
            }
            cost += kind == 1 ? labelCosts[label] : kind == 2 ? costs[transition] : 0;
            if (kind == 1 && transition != -1 || kind == 0 && x.label(transition) != label) {
                complain("move " + i + " names transition " + transition);
            }
            marking = kind == 1 ? marking : x.next(marking, transition);
        }
        int sum = cost;
        int end = marking;
        due("the sum of the costs", sum, () -> x.cost(trace));
        due("the marking at the end", end, () -> x.last());
        due("all labels are passed", position, () -> labels.length);
    }

    // ---- what is written ahead of the promises

    private static void testFullNet() {
        TraceAligner x = new TraceAligner();
        for (int i = 0; i < 8; i++) {
            due("place", i, () -> x.addPlace());
        }
        for (int i = 0; i < 10; i++) {
            due("transition", i, () -> x.addTransition(3));
        }
        due("ninth place", STATE, () -> x.addPlace());
        due("11th transition", STATE, () -> x.addTransition(3));
        due("the last transition and place", false, () -> x.link(9, 7, true, true));
        due("the last transition fires nowhere", 511, () -> x.enabled(0));
    }

    private static void testLabels() {
        TraceAligner x = new TraceAligner();
        for (int i = -1; i < 6; i++) {
            int label = i;
            due("transition with label " + label, label + 1, () -> x.addTransition(label));
            due("label " + label, label, () -> x.label(label + 1));
        }
    }

    private static void testPlaceThatIsBoth() {
        for (int i = 0; i < 4; i++) {
            int tokens = i;
            TraceAligner x = net(new int[] {tokens}, new int[] {0}, new int[] {1}, new int[] {1});
            due(tokens + " tokens: markings", 1, () -> x.markings());
            due(tokens + " tokens: next", tokens == 0 ? -1 : 0, () -> x.next(0, 0));
            due(tokens + " tokens: tokens", tokens, () -> x.tokens(0, 0));
        }
    }

    private static void testTokensOfMarkings() {
        TraceAligner x = net(new int[8], new int[] {0}, new int[] {0}, new int[] {128});
        due("markings", 4, () -> x.markings());
        for (int m = 0; m < 4; m++) {
            int marking = m;
            due("tokens in the last place", marking, () -> x.tokens(marking, 7));
            due("tokens in the one beside it", 0, () -> x.tokens(marking, 6));
        }
        due("no fourth token", -1, () -> x.next(3, 0));
        TraceAligner full = bare(8, 0);
        setFirst(full, row(8, 3));
        setLast(full, row(8, 3));
        for (int p = 0; p < 8; p++) {
            int place = p;
            due("all places full", 3, () -> full.tokens(0, place));
        }
        due("all places full: last", 0, () -> full.last());
    }

    private static void testNoTokensAtFirst() {
        TraceAligner x = bare(8, 0);
        due("the first marking is the last one", 0, () -> x.last());
        for (int p = 0; p < 8; p++) {
            int place = p;
            due("tokens of the marking", 0, () -> x.tokens(0, place));
            due("tokens of the first one", 0, () -> x.setTokens(place, 0, false));
            due("tokens of the last one", 0, () -> x.setTokens(place, 0, true));
        }
    }

    private static void testTokensInInputPlaces() {
        TraceAligner x = net(row(8, 1), new int[] {0, 0}, new int[] {255, 0}, new int[] {0, 0});
        due("a token in each of 8", 3, () -> x.enabled(0));
        for (int p = 0; p < 8; p++) {
            int place = p;
            x.setTokens(place, 0, false);
            due("none in place " + place, 2, () -> x.enabled(0));
            x.setTokens(place, 3, false);
            due("three in place " + place, 3, () -> x.enabled(0));
        }
    }

    private static void testTokensBehind() {
        TraceAligner x = net(row(8, 2), new int[] {0}, new int[] {0}, new int[] {255});
        due("two tokens in each of 8", 1, () -> x.enabled(0));
        due("markings", 2, () -> x.markings());
        for (int p = 0; p < 8; p++) {
            int place = p;
            x.setTokens(place, 3, false);
            due("three in place " + place, 0, () -> x.enabled(0));
            x.link(0, place, true, true);
            due("three in place " + place + ", one taken from it", 1, () -> x.enabled(0));
            x.link(0, place, true, false);
            x.setTokens(place, 2, false);
        }
    }

    private static void testSetsOfTransitions() {
        TraceAligner x = bare(1, 10);
        due("all of 10", 1023, () -> x.enabled(0));
        for (int t = 0; t < 9; t++) {
            x.link(t, 0, true, true);
        }
        due("the last one alone", 512, () -> x.enabled(0));
        x.link(9, 0, true, true);
        due("none", 0, () -> x.enabled(0));
        x.link(0, 0, true, false);
        due("the first one alone", 1, () -> x.enabled(0));
    }

    private static void testNumbersOfMarkings() {
        int[] inputs = {1, 1, 4, 2};
        int[] outputs = {4, 2, 2, 4};
        TraceAligner x = net(new int[] {2, 0, 0}, row(4, 0), inputs, outputs);
        List<List<Integer>> found = found(new int[] {2, 0, 0}, inputs, outputs);
        due("markings", found.size(), () -> x.markings());
        due("tokens of the first one", 2, () -> x.tokens(0, 0));
        due("the smaller transition leads to marking 1", 1, () -> x.tokens(1, 2));
        due("the next one leads to marking 2", 1, () -> x.tokens(2, 1));
        due("one that was found before keeps its number", 2, () -> x.next(1, 2));
        for (int m = 0; m < found.size(); m++) {
            for (int p = 0; p < 3; p++) {
                int marking = m;
                int place = p;
                due("tokens(" + m + ", " + p + ")", found.get(m).get(p), () -> x.tokens(marking, place));
            }
        }
    }

    private static void testTwoHundredMarkings() {
        List<List<Integer>> all = found(JUST_TOO_MANY_FIRST, JUST_TOO_MANY_INPUTS, JUST_TOO_MANY_OUTPUTS);
        due("the model's own number", 201, () -> all.size());
        due("200 markings", 200, () -> twoHundred().markings());
        due("201 markings", -1, () -> justTooMany().markings());
        due("256 markings", -1, () -> tooMany().markings());
        TraceAligner x = bare(8, 8);
        for (int i = 0; i < 8; i++) {
            x.link(i, i, false, true);
        }
        due("65536 markings", -1, () -> x.markings());
    }

    private static void testNumbersOfTraces() {
        TraceAligner x = new TraceAligner();
        for (int i = 0; i < 8; i++) {
            int number = i;
            due("trace", number, () -> trace(x, 1, row(number, 0)));
        }
        due("ninth trace", STATE, () -> x.store(1));
        for (int i = 0; i < 8; i++) {
            int number = i;
            due("its labels", number, () -> x.length(number));
        }
    }

    private static void testLabelsOfTraces() {
        TraceAligner x = new TraceAligner();
        due("a trace without labels", 0, () -> trace(x, 1));
        due("a trace of 8 labels", 1, () -> trace(x, 1, 5, 4, 3, 2, 1, 0, 5, 4));
        due("none", 0, () -> x.length(0));
        due("8", 8, () -> x.length(1));
        due("a ninth label", STATE, () -> trace(x, 1, 0, 1, 2, 3, 4, 5, 0, 1, 2));
    }

    private static void testTimes() {
        TraceAligner x = new TraceAligner();
        due("0 times", 0, () -> trace(x, 0, 5));
        due("0 times count for nothing", 0, () -> x.total(1, 5));
        due("99 times", 1, () -> trace(x, 99, 5));
        due("99 times count", 99, () -> x.total(1, 5));
        due("100 times", ARGUMENT, () -> x.store(100));
        due("-1 times", ARGUMENT, () -> x.store(-1));
    }

    private static void testBeginning() {
        TraceAligner x = line();
        trace(x, 1, 0, 1);
        due("the marking ahead of the first move", 0, () -> x.move(0, 0, 3));
        due("the label of the first move", 0, () -> x.move(0, 0, 2));
    }

    private static void testBothCostsNothing() {
        TraceAligner x = line();
        for (int label = 0; label < 2; label++) {
            x.setLabelCost(label, 9);
            x.setCost(label, 9);
        }
        trace(x, 1, 0, 1);
        dueAlignment("both", x, 0, 0, new int[] {0, 0, 0, 0}, new int[] {0, 1, 1, 1});
    }

    private static void testCostOfTrace() {
        TraceAligner x = new TraceAligner();
        for (int i = 0; i < 6; i++) {
            int label = i;
            due("trace of label " + i, label, () -> trace(x, 1, label));
            due("at first", 1, () -> x.cost(label));
            x.setLabelCost(label, 0);
            due("of 0", 0, () -> x.cost(label));
            x.setLabelCost(label, 9);
            due("of 9", 9, () -> x.cost(label));
            due("moves", 1, () -> x.moves(label));
        }
        trace(x, 1, 0, 1, 2, 3, 4, 5, 0, 1);
        due("8 times 9", 72, () -> x.cost(6));
    }

    private static void testCostOfModel() {
        TraceAligner x = line();
        trace(x, 1);
        due("two with labels, at first", 2, () -> x.cost(0));
        x.setCost(1, 0);
        due("one of them 0", 1, () -> x.cost(0));
        x.setCost(0, 9);
        due("the other 9", 9, () -> x.cost(0));
        due("moves", 2, () -> x.moves(0));
        TraceAligner silent = net(new int[] {1, 0}, new int[] {-1}, new int[] {1}, new int[] {2});
        setLast(silent, 0, 1);
        trace(silent, 1);
        due("a silent one, at first", 0, () -> silent.cost(0));
        silent.setCost(0, 9);
        due("a silent one of 9", 9, () -> silent.cost(0));
        due("a silent one: moves", 1, () -> silent.moves(0));
    }

    /** A net whose only label comes behind a long way of silent transitions, each of the 8 times. */
    private static final int[] LONG_FIRST = {0, 3, 2, 2, 2, 0};
    private static final int[] LONG_INPUTS = {54, 25, 5, 16, 3, 40, 35, 10, 44, 0};
    private static final int[] LONG_OUTPUTS = {59, 2, 50, 11, 1, 46, 2, 28, 22, 62};

    private static TraceAligner longWay() {
        TraceAligner x = net(LONG_FIRST, new int[] {-1, -1, -1, -1, -1, -1, -1, -1, -1, 0}, LONG_INPUTS, LONG_OUTPUTS);
        setLast(x, 0, 0, 2, 2, 1, 0);
        x.setLabelCost(0, 9);
        trace(x, 1, row(8, 0));
        return x;
    }

    private static void testEndOfAlignments() {
        int[] ones = row(10, 1);
        TraceAligner x = line();
        int[][] traces = {{}, {0, 1}, {1, 0}, {5, 5, 5, 5, 5, 5, 5, 5}, {0, 0, 0, 0, 1, 1, 1, 1}};
        for (int i = 0; i < traces.length; i++) {
            trace(x, 1, traces[i]);
            dueLegal(x, i, ones, ones, traces[i]);
        }
        TraceAligner full = twoHundred();
        trace(full, 1, 4, 3, 4, 3, 2, 1, 0, 5);
        dueLegal(full, 0, ones, ones, 4, 3, 4, 3, 2, 1, 0, 5);
        TraceAligner ended = line();
        setLast(ended, 1, 0, 0);
        trace(ended, 1);
        due("the last marking is the first one", 0, () -> ended.moves(0));
    }

    private static void testLeastCostsThenMoves() {
        TraceAligner x = net(new int[] {3, 0, 0, 0, 0, 0, 0, 0}, row(8, -1),
                new int[] {1, 2, 4, 8, 16, 32, 64, 1}, new int[] {2, 4, 8, 16, 32, 64, 128, 128});
        setLast(x, 0, 0, 0, 0, 0, 0, 0, 3);
        trace(x, 1);
        due("all for nothing: moves", 3, () -> x.moves(0));
        x.setCost(7, 1);
        due("21 moves for nothing ahead of 3 for 3: cost", 0, () -> x.cost(0));
        due("21 moves for nothing ahead of 3 for 3: moves", 21, () -> x.moves(0));
        x.setCost(6, 1);
        due("3 moves for 3 ahead of 21 for 3: cost", 3, () -> x.cost(0));
        due("3 moves for 3 ahead of 21 for 3: moves", 3, () -> x.moves(0));
        x.setCost(6, 0);
        x.setTokens(0, 1, false);
        x.setTokens(7, 1, true);
        due("7 moves for nothing ahead of 1 for 1: cost", 0, () -> x.cost(0));
        due("7 moves for nothing ahead of 1 for 1: moves", 7, () -> x.moves(0));
    }

    private static void testLastThatCannotCome() {
        TraceAligner x = line();
        trace(x, 1, 0, 1);
        trace(x, 1);
        for (int[] last : new int[][] {{0, 0, 0}, {1, 0, 1}, {0, 0, 2}, {0, 1, 1}, {3, 3, 3}}) {
            setLast(x, last);
            for (int i = 0; i < 2; i++) {
                int trace = i;
                due("no alignment: cost", -1, () -> x.cost(trace));
                due("no alignment: moves", -1, () -> x.moves(trace));
            }
        }
        setLast(x, 0, 1, 0);
        due("it can come: cost", 1, () -> x.cost(0));
        due("it can come: moves of the empty trace", 1, () -> x.moves(1));
    }

    private static void testWorstCosts() {
        TraceAligner x = new TraceAligner();
        trace(x, 1);
        due("no labels, no net", 0, () -> x.worst(0));
        for (int label = 0; label < 6; label++) {
            x.setLabelCost(label, 9);
        }
        trace(x, 1, 5, 4, 3, 2, 1, 0, 5, 5);
        due("8 labels of 9, no net", 72, () -> x.worst(1));
        TraceAligner y = line();
        trace(y, 1, 0, 1, 0);
        y.setLabelCost(0, 9);
        y.setLabelCost(1, 0);
        due("a label twice, one of 0, and the model", 20, () -> y.worst(0));
        y.setCost(0, 9);
        y.setCost(1, 9);
        due("and a dear model", 36, () -> y.worst(0));
        trace(y, 1);
        due("a dear model alone", 18, () -> y.worst(1));
    }

    /** 8 places, 10 transitions, 8 traces, and 8 labels in the buffer, in 75 calls. */
    private static TraceAligner full() {
        TraceAligner x = bare(8, 10);
        x.setTokens(0, 1, false);
        x.setTokens(7, 1, true);
        for (int t = 0; t < 7; t++) {
            x.link(t, t, true, true);
            x.link(t, t + 1, false, true);
        }
        x.link(7, 0, true, true);
        x.link(7, 7, false, true);
        x.link(8, 3, true, true);
        x.link(8, 3, false, true);
        trace(x, 99, 0, 1, 2, 3, 4, 5, 0, 3);
        trace(x, 1);
        trace(x, 0, 5);
        trace(x, 2, 1, 5);
        trace(x, 3, 0, 1, 2);
        trace(x, 4, 4);
        trace(x, 5);
        trace(x, 6, 3, 2);
        for (int i = 0; i < 8; i++) {
            x.event(5 - i % 6);
        }
        x.setCost(9, 8);
        x.setLabelCost(5, 7);
        return x;
    }

    private static TraceAligner tooManyWithTraces() {
        TraceAligner x = tooMany();
        trace(x, 3, 0, 5);
        trace(x, 0);
        x.event(2);
        return x;
    }

    /** What an object tells of itself, at last when its buffer is stored and its net has fewer markings. */
    private static List<Object> story(TraceAligner x) {
        List<Object> told = new ArrayList<>();
        tellNet(told, x);
        tellTraces(told, x);
        told.add(answer(() -> x.dropTrace()));
        told.add(answer(() -> x.store(7)));
        for (int trace : new int[] {0, 1, 7}) {
            told.add(answer(() -> x.length(trace)));
            told.add(answer(() -> x.moves(trace)));
        }
        for (int n = 0; n < 10; n++) {
            int number = n;
            told.add(answer(() -> x.setCost(number, 1)));
            told.add(answer(() -> x.setLabelCost(number, 1)));
            told.add(answer(() -> x.setTokens(number, 0, false)));
            told.add(answer(() -> x.setTokens(number, 0, true)));
        }
        told.add(answer(() -> x.link(3, 3, false, false)));
        told.add(answer(() -> x.addPlace()));
        told.add(answer(() -> x.addTransition(4)));
        told.add(answer(() -> x.markings()));
        told.add(answer(() -> x.digest()));
        return told;
    }

    private static void tellNet(List<Object> told, TraceAligner x) {
        told.add(x.digest());
        for (int n = 0; n < 3; n++) {
            int what = n;
            told.add(x.count(what));
        }
        told.add(x.markings());
        told.add(answer(() -> x.last()));
        told.add(answer(() -> x.dead()));
        told.add(answer(() -> x.live()));
        for (int n = 0; n < 10; n++) {
            int t = n;
            told.add(answer(() -> x.label(t)));
            for (int m = 0; m < 8; m++) {
                int marking = m;
                told.add(answer(() -> x.next(marking, t)));
            }
        }
        for (int n = 0; n < 8; n++) {
            int m = n;
            told.add(answer(() -> x.enabled(m)));
            told.add(answer(() -> x.away(m)));
            told.add(answer(() -> x.tokens(m, m)));
        }
    }

    private static void tellTraces(List<Object> told, TraceAligner x) {
        for (int n = 0; n < 8; n++) {
            int trace = n;
            told.add(answer(() -> x.length(trace)));
            told.add(answer(() -> x.cost(trace)));
            told.add(answer(() -> x.moves(trace)));
            told.add(answer(() -> x.worst(trace)));
            told.add(answer(() -> x.fitness(trace)));
            for (int m = 0; m < 3; m++) {
                int move = m;
                told.add(answer(() -> x.move(trace, move, 1)));
                told.add(answer(() -> x.move(trace, move, 2)));
            }
        }
        for (int n = 0; n < 10; n++) {
            int which = n;
            told.add(answer(() -> x.total(0, which)));
            told.add(answer(() -> x.total(1, which)));
            told.add(answer(() -> x.total(2, which)));
        }
        told.add(answer(() -> x.allFitness()));
        told.add(answer(() -> x.precision()));
    }

    /** Refused calls leave an object as one of the same making that never had them. */
    private static void dueUnchanged(String name, Maker maker, Query... refused) {
        List<Object> due = story(maker.make());
        for (int i = 0; i < refused.length; i++) {
            for (int asked = 0; asked < 2; asked++) {
                TraceAligner x = maker.make();
                Query query = refused[i];
                if (asked == 1) {
                    x.digest();
                }
                Object first = answer(() -> query.ask(x));
                Object second = answer(() -> query.ask(x));
                if (!first.toString().endsWith("Exception") || !first.equals(second)) {
                    complain(name + ": refused call " + i + " answered " + first + ", then " + second);
                }
                if (!due.equals(story(x))) {
                    complain(name + ": refused call " + i + " changed the object");
                }
            }
        }
    }

    private static void testRefusedCallsChangeNothing() {
        dueUnchanged("full", EdgesTest::full,
                x -> x.addPlace(), x -> x.addTransition(0), x -> x.addTransition(-1), x -> x.addTransition(-2),
                x -> x.addTransition(6), x -> x.link(10, 0, true, true), x -> x.link(-1, 0, false, true),
                x -> x.link(0, 8, false, true), x -> x.link(0, -1, true, false), x -> x.link(0, 32, true, false),
                x -> x.setTokens(8, 1, false), x -> x.setTokens(-1, 1, true), x -> x.setTokens(0, 4, false),
                x -> x.setTokens(0, -1, true), x -> x.count(3), x -> x.count(-1), x -> x.label(10), x -> x.label(-1),
                x -> x.tokens(8, 0), x -> x.tokens(0, 8), x -> x.tokens(-1, 0), x -> x.enabled(8),
                x -> x.enabled(-1), x -> x.next(8, 0), x -> x.next(0, 10), x -> x.next(0, -1), x -> x.away(8),
                x -> x.away(-1));
        dueUnchanged("full", EdgesTest::full,
                x -> x.event(0), x -> x.event(6), x -> x.event(-1), x -> x.store(1), x -> x.store(0),
                x -> x.store(-1), x -> x.store(100), x -> x.length(8), x -> x.length(-1), x -> x.setLabelCost(6, 1),
                x -> x.setLabelCost(-1, 1), x -> x.setLabelCost(0, 10), x -> x.setLabelCost(0, -1),
                x -> x.setCost(10, 1), x -> x.setCost(-1, 1), x -> x.setCost(0, 10), x -> x.setCost(0, -1),
                x -> x.cost(8), x -> x.moves(-1), x -> x.move(8, 0, 0), x -> x.move(0, 99, 0), x -> x.move(0, -1, 0),
                x -> x.move(0, 0, 4), x -> x.move(0, 0, -1), x -> x.worst(8), x -> x.fitness(-1),
                x -> x.total(3, 0), x -> x.total(-1, 0), x -> x.total(0, 10), x -> x.total(1, 6), x -> x.total(2, -1));
        dueUnchanged("empty", TraceAligner::new,
                x -> x.dropTrace(), x -> x.link(0, 0, true, true), x -> x.setTokens(0, 1, false), x -> x.label(0),
                x -> x.tokens(0, 0), x -> x.next(0, 0), x -> x.enabled(1), x -> x.away(1), x -> x.length(0),
                x -> x.setCost(0, 1), x -> x.cost(0), x -> x.moves(0), x -> x.move(0, 0, 0), x -> x.worst(0),
                x -> x.fitness(0), x -> x.total(0, 0), x -> x.total(2, 0));
        dueUnchanged("too many", EdgesTest::tooManyWithTraces,
                x -> x.tokens(0, 0), x -> x.enabled(0), x -> x.next(0, 0), x -> x.last(), x -> x.dead(),
                x -> x.live(), x -> x.away(0), x -> x.cost(0), x -> x.moves(0), x -> x.move(0, 0, 0),
                x -> x.worst(0), x -> x.fitness(0), x -> x.total(0, 0), x -> x.total(1, 5), x -> x.allFitness(),
                x -> x.precision());
    }

    private static void testFirstNamedException() {
        TraceAligner x = full();
        due("a label that is not, and 10 transitions", ARGUMENT, () -> x.addTransition(6));
        due("no place, and tokens that are not", INDEX, () -> x.setTokens(8, 4, false));
        due("a label that is not, and 8 labels", ARGUMENT, () -> x.event(6));
        due("times that are not, and 8 traces", ARGUMENT, () -> x.store(100));
        due("no label, and a cost that is not", INDEX, () -> x.setLabelCost(6, 10));
        due("no transition, and a cost that is not", INDEX, () -> x.setCost(10, 10));
        due("no trace, and no move", INDEX, () -> x.move(8, -1, 4));
        TraceAligner many = tooManyWithTraces();
        due("too many, and no marking or place", STATE, () -> many.tokens(-1, 8));
        due("too many, and no marking", STATE, () -> many.enabled(-1));
        due("too many, and no marking or transition", STATE, () -> many.next(200, 10));
        due("too many, and no marking to be away", STATE, () -> many.away(200));
        due("too many, and no trace: cost", INDEX, () -> many.cost(2));
        due("too many, and no trace: moves", INDEX, () -> many.moves(-1));
        due("too many, and no trace: move", INDEX, () -> many.move(2, 0, 0));
        due("too many, and no move", STATE, () -> many.move(0, -1, 4));
        due("too many, and no trace: worst", INDEX, () -> many.worst(2));
        due("too many, and no trace: fitness", INDEX, () -> many.fitness(2));
        due("too many, and no kind", INDEX, () -> many.total(3, 0));
        due("too many, and no transition", INDEX, () -> many.total(0, 4));
        due("too many, and no label", INDEX, () -> many.total(1, 6));
    }

    private static void testLastCallOfAnObject() {
        TraceAligner x = line();
        // The line is 3 + 3 + 2 + 4 + 3 calls; 124 times four and one more make 512.
        for (int i = 0; i < 124; i++) {
            due("event", 1, () -> x.event(2));
            due("store", 0, () -> x.store(1));
            due("cost", 3, () -> x.cost(0));
            due("dropTrace", 0, () -> x.dropTrace());
        }
        due("the 512th call", 1, () -> x.event(5));
    }

    // ---- promises 1 to 7: the net

    private static void testNewObject() {
        TraceAligner x = new TraceAligner();
        for (int what = 0; what < 3; what++) {
            int n = what;
            due("count(" + n + ")", 0, () -> x.count(n));
        }
        due("label(0)", INDEX, () -> x.label(0));
        due("setTokens(0, 0, true)", INDEX, () -> x.setTokens(0, 0, true));
        due("length(0)", INDEX, () -> x.length(0));
        due("markings", 1, () -> x.markings());
    }

    private static void testPlaces() {
        TraceAligner x = new TraceAligner();
        for (int i = 0; i < 8; i++) {
            int number = i;
            due("place without room before it", INDEX, () -> x.setTokens(number, 1, false));
            due("place", number, () -> x.addPlace());
            due("place that is there", 0, () -> x.setTokens(number, 1, false));
        }
    }

    private static void testNinthPlace() {
        TraceAligner x = bare(7, 0);
        due("eighth place", 7, () -> x.addPlace());
        for (int i = 0; i < 3; i++) {
            due("ninth place", STATE, () -> x.addPlace());
        }
        due("places", 8, () -> x.count(0));
        due("place 8", INDEX, () -> x.setTokens(8, 0, false));
    }

    private static void testTransitionWithoutPlaces() {
        TraceAligner x = bare(8, 0);
        setFirst(x, row(8, 3));
        for (int i = 0; i < 10; i++) {
            int t = i;
            due("transition", t, () -> x.addTransition(t % 7 - 1));
            due("it fires", 0, () -> x.next(0, t));
            for (int p = 0; p < 8; p++) {
                int place = p;
                due("its input place", false, () -> x.link(t, place, true, false));
                due("its output place", false, () -> x.link(t, place, false, false));
            }
        }
        due("markings", 1, () -> x.markings());
    }

    private static void testWrongLabelOfTransition() {
        TraceAligner x = new TraceAligner();
        dueOutside("label", -1, 5, ARGUMENT, n -> x.addTransition(n));
        due("transitions", 0, () -> x.count(1));
        due("label -1", 0, () -> x.addTransition(-1));
        due("label 0", 1, () -> x.addTransition(0));
        due("label 5", 2, () -> x.addTransition(5));
        TraceAligner full = bare(0, 10);
        dueOutside("label, and 10 transitions", -1, 5, ARGUMENT, n -> full.addTransition(n));
    }

    private static void testEleventhTransition() {
        TraceAligner x = bare(0, 9);
        due("tenth transition", 9, () -> x.addTransition(-1));
        for (int label = -1; label < 6; label++) {
            int l = label;
            due("11th transition", STATE, () -> x.addTransition(l));
        }
        due("transitions", 10, () -> x.count(1));
        due("transition 10", INDEX, () -> x.label(10));
    }

    private static void testSilentLabel() {
        TraceAligner x = new TraceAligner();
        x.addTransition(-1);
        x.addTransition(0);
        due("silent: its cost", 0, () -> x.setCost(0, 0));
        due("not silent: its cost", 1, () -> x.setCost(1, 1));
        due("silent", -1, () -> x.label(0));
        due("not silent", 0, () -> x.label(1));
    }

    private static void testLinkOrNoMore() {
        TraceAligner x = net(new int[] {1}, new int[] {0}, new int[] {0}, new int[] {0});
        due("no places: next", 0, () -> x.next(0, 0));
        x.link(0, 0, true, false);
        due("no more, and never was: next", 0, () -> x.next(0, 0));
        x.link(0, 0, true, true);
        x.link(0, 0, true, true);
        due("input, said twice: tokens", 0, () -> x.tokens(1, 0));
        due("input, said twice: markings", 2, () -> x.markings());
        x.link(0, 0, true, false);
        due("no more input: markings", 1, () -> x.markings());
        x.link(0, 0, false, true);
        x.link(0, 0, false, true);
        due("output, said twice: tokens", 2, () -> x.tokens(1, 0));
        due("output, said twice: markings", 3, () -> x.markings());
        x.link(0, 0, false, false);
        due("no more output: markings", 1, () -> x.markings());
    }

    private static void testLinkBefore() {
        TraceAligner x = bare(8, 10);
        for (int t = 0; t < 10; t += 9) {
            for (int p = 0; p < 8; p += 7) {
                for (int side = 0; side < 2; side++) {
                    int transition = t;
                    int place = p;
                    boolean isInput = side == 0;
                    due("off at first", false, () -> x.link(transition, place, isInput, false));
                    due("on then", false, () -> x.link(transition, place, isInput, true));
                    due("on again", true, () -> x.link(transition, place, isInput, true));
                    due("off then", true, () -> x.link(transition, place, isInput, false));
                    due("off again", false, () -> x.link(transition, place, isInput, false));
                    due("on, and left on", false, () -> x.link(transition, place, isInput, true));
                }
            }
        }
        due("a place beside", false, () -> x.link(9, 6, true, true));
        due("a transition beside", false, () -> x.link(8, 7, false, true));
    }

    private static void testLinkOfNothing() {
        for (boolean isInput : new boolean[] {true, false}) {
            for (boolean isOn : new boolean[] {true, false}) {
                TraceAligner x = bare(3, 2);
                dueOutside("transition", 0, 1, INDEX, n -> x.link(n, 0, isInput, isOn));
                dueOutside("place", 0, 2, INDEX, n -> x.link(0, n, isInput, isOn));
                dueOutside("neither", 0, 2, INDEX, n -> x.link(n, n, isInput, isOn));
                TraceAligner full = bare(8, 10);
                dueOutside("transition of 10", 0, 9, INDEX, n -> full.link(n, 7, isInput, isOn));
                dueOutside("place of 8", 0, 7, INDEX, n -> full.link(9, n, isInput, isOn));
                due("no net", INDEX, () -> new TraceAligner().link(0, 0, isInput, isOn));
                due("no places", INDEX, () -> bare(0, 1).link(0, 0, isInput, isOn));
                due("no transitions", INDEX, () -> bare(1, 0).link(0, 0, isInput, isOn));
            }
        }
    }

    private static void testTokensOfBothMarkings() {
        TraceAligner x = bare(8, 0);
        for (int place = 0; place < 8; place += 7) {
            int p = place;
            x.setTokens(p, 3, false);
            due("only the first one is set", -1, () -> x.last());
            due("its tokens", 3, () -> x.tokens(0, p));
            x.setTokens(p, 3, true);
            due("both are set", 0, () -> x.last());
            x.setTokens(p, 0, false);
            due("only the last one is set", -1, () -> x.last());
            due("its tokens", 0, () -> x.tokens(0, p));
            x.setTokens(p, 0, true);
        }
    }

    private static void testTokensBefore() {
        TraceAligner x = bare(8, 0);
        for (int place = 0; place < 8; place += 7) {
            int p = place;
            for (boolean isLast : new boolean[] {false, true}) {
                due("none at first", 0, () -> x.setTokens(p, 3, isLast));
                due("three then", 3, () -> x.setTokens(p, 3, isLast));
                due("three again", 3, () -> x.setTokens(p, 0, isLast));
                due("none then", 0, () -> x.setTokens(p, 1, isLast));
                due("one, and the other marking's are others", 1, () -> x.setTokens(p, 2, isLast));
            }
        }
    }

    private static void testTokensOfNoPlace() {
        for (boolean isLast : new boolean[] {false, true}) {
            TraceAligner x = bare(3, 0);
            dueOutside("place", 0, 2, INDEX, n -> x.setTokens(n, 0, isLast));
            dueOutside("place and tokens", 0, 3, INDEX, n -> x.setTokens(n, n, isLast));
            TraceAligner full = bare(8, 0);
            dueOutside("place of 8", 0, 7, INDEX, n -> full.setTokens(n, 3, isLast));
            due("no places", INDEX, () -> new TraceAligner().setTokens(0, 0, isLast));
        }
    }

    private static void testWrongTokens() {
        for (boolean isLast : new boolean[] {false, true}) {
            TraceAligner x = bare(1, 0);
            x.setTokens(0, 2, isLast);
            dueOutside("tokens", 0, 3, ARGUMENT, n -> x.setTokens(0, n, isLast));
            due("3 tokens", 2, () -> x.setTokens(0, 3, isLast));
            due("0 tokens", 3, () -> x.setTokens(0, 0, isLast));
        }
    }

    private static void testCounts() {
        TraceAligner empty = new TraceAligner();
        TraceAligner full = full();
        int[] most = {8, 10, 8};
        for (int n = 0; n < 3; n++) {
            int what = n;
            due("count of nothing", 0, () -> empty.count(what));
            due("count of all", most[what], () -> full.count(what));
        }
    }

    private static void testLabelOfNoTransition() {
        TraceAligner x = bare(0, 3);
        dueOutside("transition", 0, 2, INDEX, n -> x.label(n));
        TraceAligner full = bare(0, 10);
        dueOutside("transition of 10", 0, 9, INDEX, n -> full.label(n));
        due("the tenth", 3, () -> full.label(9));
        due("no transitions", INDEX, () -> new TraceAligner().label(0));
    }

    // ---- promises 8 to 15: the markings

    private static void testNumberOfMarkings() {
        due("no net", 1, () -> new TraceAligner().markings());
        due("nothing fires", 1, () -> bare(8, 0).markings());
        due("200", 200, () -> twoHundred().markings());
        TraceAligner x = justTooMany();
        due("201", -1, () -> x.markings());
        due("201, again", -1, () -> x.markings());
        x.setTokens(0, 0, false);
        int[] first = JUST_TOO_MANY_FIRST.clone();
        first[0] = 0;
        int size = found(first, JUST_TOO_MANY_INPUTS, JUST_TOO_MANY_OUTPUTS).size();
        due("with fewer tokens", size > 200 ? -1 : size, () -> x.markings());
        x.setTokens(0, 3, false);
        due("201 once more", -1, () -> x.markings());
    }

    private static void testTokensWithoutPlace() {
        dueWithoutSuchMarking((x, m) -> x.tokens(m, 0));
        TraceAligner x = bare(3, 0);
        dueOutside("place", 0, 2, INDEX, n -> x.tokens(0, n));
        TraceAligner full = bare(8, 0);
        dueOutside("place of 8", 0, 7, INDEX, n -> full.tokens(0, n));
        due("no places", INDEX, () -> new TraceAligner().tokens(0, 0));
    }

    private static void testNextWithoutTransition() {
        dueWithoutSuchMarking((x, m) -> x.next(m, 0));
        TraceAligner x = bare(1, 3);
        dueOutside("transition", 0, 2, INDEX, n -> x.next(0, n));
        TraceAligner full = bare(0, 10);
        dueOutside("transition of 10", 0, 9, INDEX, n -> full.next(0, n));
        due("the tenth", 0, () -> full.next(0, 9));
        due("no transitions", INDEX, () -> new TraceAligner().next(0, 0));
    }

    private static void testNextThatCannotFire() {
        TraceAligner x = net(new int[] {0, 3}, row(3, 0), new int[] {1, 0, 0}, new int[] {0, 2, 1});
        due("no token in its input place", -1, () -> x.next(0, 0));
        due("a full output place", -1, () -> x.next(0, 1));
        due("it can", 1, () -> x.next(0, 2));
        due("now there is a token", 0, () -> x.next(1, 0));
        due("still full", -1, () -> x.next(1, 1));
        due("full at last", -1, () -> x.next(3, 2));
        due("the last of 200", -1, () -> twoHundred().next(199, 0));
        due("the last of 200, the last transition", -1, () -> twoHundred().next(199, 4));
    }

    private static void testLastAmongMarkings() {
        due("no net", 0, () -> new TraceAligner().last());
        due("the last of 200", 199, () -> twoHundred().last());
        TraceAligner x = twoHundred();
        setLast(x, 3, 0, 0, 0, 3, 0, 0);
        due("the first of 200", 0, () -> x.last());
        setLast(x, 3, 0, 0, 0, 3, 0, 1);
        due("a token more", -1, () -> x.last());
        setLast(x, 0, 0, 0, 0, 0, 0, 0);
        due("no token", -1, () -> x.last());
        x.addPlace();
        setLast(x, 3, 0, 0, 0, 3, 0, 0, 1);
        due("a token in a place that never has one", -1, () -> x.last());
    }

    private static void testDeadBesideTheLast() {
        due("no net", 0, () -> new TraceAligner().dead());
        TraceAligner first = bare(1, 0);
        due("the first one is the last one", 0, () -> first.dead());
        first.setTokens(0, 1, false);
        due("the first one is not the last one", 1, () -> first.dead());
        due("the last of 200 is the only one", 0, () -> twoHundred().dead());
        TraceAligner x = twoHundred();
        x.setTokens(6, 0, true);
        due("it is none of them", 1, () -> x.dead());
        x.setTokens(6, 3, true);
        x.addTransition(5);
        due("a transition fires in each", 0, () -> x.dead());
        TraceAligner ends = net(new int[] {1, 0, 0, 0, 0, 0, 0, 0}, row(10, 0),
                new int[] {1, 1, 1, 1, 1, 1, 1, 2, 4, 8}, new int[] {2, 4, 8, 16, 32, 64, 128, 2, 4, 8});
        due("four dead ends", 4, () -> ends.dead());
        ends.setTokens(7, 1, true);
        due("one of them the last", 3, () -> ends.dead());
    }

    private static void testLiveTransitions() {
        due("no net", 0, () -> new TraceAligner().live());
        due("all of 10", 1023, () -> bare(0, 10).live());
        due("none of 10", 0, () -> net(new int[1], row(10, 0), row(10, 1), row(10, 0)).live());
        TraceAligner x = net(new int[] {1, 0, 0}, row(10, 0), new int[] {1, 4, 4, 4, 4, 4, 4, 4, 4, 2},
                new int[] {2, 0, 0, 0, 0, 0, 0, 0, 0, 0});
        due("the first and, later, the last one", 513, () -> x.live());
        due("the last of 200 does not fire alone", 31, () -> twoHundred().live());
    }

    private static void testAway() {
        due("no net", 0, () -> new TraceAligner().away(0));
        TraceAligner x = twoHundred();
        due("from the last one", 0, () -> x.away(199));
        due("from the one ahead of it", 1, () -> x.away(198));
        due("from the first of 200", 15, () -> x.away(0));
        x.setTokens(0, 3, true);
        x.setTokens(3, 0, true);
        x.setTokens(4, 3, true);
        x.setTokens(6, 0, true);
        due("the last one is the first", 0, () -> x.away(0));
        due("there is no way back", -1, () -> x.away(1));
        due("there is no way back from the end", -1, () -> x.away(199));
        x.setTokens(6, 1, true);
        due("it is none of them", -1, () -> x.away(0));
    }

    /** The way from the first marking to the last one is as long as 101 transitions. */
    private static void testLongWay() {
        int[] first = {0, 0, 3, 0, 2, 2};
        int[] inputs = {17, 51, 42, 4, 56, 23, 16, 35, 40};
        int[] outputs = {0, 7, 37, 16, 6, 60, 44, 1, 34};
        TraceAligner x = net(first, row(9, -1), inputs, outputs);
        setLast(x, 0, 3, 3, 0, 3, 1);
        List<List<Integer>> found = found(first, inputs, outputs);
        due("markings", found.size(), () -> x.markings());
        int[] steps = stepsTo(found, found.indexOf(List.of(0, 3, 3, 0, 3, 1)), inputs, outputs);
        due("the model's own number", 101, () -> steps[0]);
        for (int m = 0; m < found.size(); m++) {
            int marking = m;
            due("away(" + m + ")", steps[m], () -> x.away(marking));
        }
    }

    private static int[] stepsTo(List<List<Integer>> found, int goal, int[] inputs, int[] outputs) {
        int[] steps = row(found.size(), -1);
        steps[goal] = 0;
        for (int pass = 0; pass < found.size(); pass++) {
            for (int m = 0; m < found.size(); m++) {
                for (int t = 0; t < inputs.length; t++) {
                    List<Integer> behind = behind(found.get(m), inputs[t], outputs[t]);
                    int n = behind == null ? -1 : steps[found.indexOf(behind)];
                    if (n == pass && steps[m] == -1) {
                        steps[m] = n + 1;
                    }
                }
            }
        }
        return steps;
    }

    // ---- promises 16 to 21: traces and costs

    private static void testBuffer() {
        TraceAligner x = new TraceAligner();
        for (int i = 0; i < 8; i++) {
            int number = i + 1;
            due("label " + number, number, () -> x.event(5));
        }
        x.store(1);
        due("the first one again", 1, () -> x.event(0));
    }

    private static void testWrongEvent() {
        TraceAligner x = new TraceAligner();
        dueOutside("label", 0, 5, ARGUMENT, n -> x.event(n));
        due("label 0", 1, () -> x.event(0));
        due("label 5", 2, () -> x.event(5));
        for (int i = 2; i < 8; i++) {
            x.event(i % 6);
        }
        dueOutside("label, and 8 in the buffer", 0, 5, ARGUMENT, n -> x.event(n));
    }

    private static void testFullBuffer() {
        TraceAligner x = new TraceAligner();
        for (int i = 0; i < 7; i++) {
            x.event(1);
        }
        due("eighth label", 8, () -> x.event(1));
        for (int label = 0; label < 6; label++) {
            int l = label;
            due("ninth label", STATE, () -> x.event(l));
        }
        due("store", 0, () -> x.store(1));
        due("length", 8, () -> x.length(0));
    }

    private static void testStoredBuffer() {
        TraceAligner x = new TraceAligner();
        due("an empty buffer", 0, () -> x.store(1));
        due("its length", 0, () -> x.length(0));
        due("a full buffer", 1, () -> trace(x, 1, 5, 5, 5, 5, 5, 5, 5, 4));
        due("its length", 8, () -> x.length(1));
        due("the buffer is empty then", 2, () -> x.store(1));
        due("its length", 0, () -> x.length(2));
        due("a label", 1, () -> x.event(0));
        due("one label", 3, () -> x.store(1));
        due("its length", 1, () -> x.length(3));
        due("its label", 0, () -> x.move(3, 0, 2));
        due("the last label of eight", 4, () -> x.move(1, 7, 2));
    }

    private static void testWrongTimes() {
        TraceAligner x = new TraceAligner();
        x.event(0);
        dueOutside("times", 0, 99, ARGUMENT, n -> x.store(n));
        due("99 times", 0, () -> x.store(99));
        due("0 times", 1, () -> x.store(0));
        due("the buffer was kept", 1, () -> x.length(0));
        for (int i = 2; i < 8; i++) {
            x.store(1);
        }
        dueOutside("times, and 8 traces", 0, 99, ARGUMENT, n -> x.store(n));
    }

    private static void testNinthTrace() {
        TraceAligner x = new TraceAligner();
        for (int i = 0; i < 7; i++) {
            x.store(1);
        }
        due("eighth trace", 7, () -> x.store(1));
        x.event(2);
        due("ninth trace", STATE, () -> x.store(1));
        due("ninth trace, 0 times", STATE, () -> x.store(0));
        due("traces", 8, () -> x.count(2));
        due("the buffer is kept", 2, () -> x.event(2));
        due("dropTrace", 7, () -> x.dropTrace());
        due("store", 7, () -> x.store(99));
        due("length", 2, () -> x.length(7));
    }

    private static void testDroppedTraces() {
        TraceAligner x = new TraceAligner();
        for (int i = 0; i < 8; i++) {
            trace(x, 1, row(i, 1));
        }
        for (int i = 7; i >= 0; i--) {
            int left = i;
            due("its length", left, () -> x.length(left));
            due("dropTrace", left, () -> x.dropTrace());
            due("it is gone", INDEX, () -> x.length(left));
        }
        trace(x, 1, 3);
        due("one in the place of the first", 1, () -> x.length(0));
        due("its cost", 1, () -> x.cost(0));
        x.dropTrace();
        trace(x, 1, 3, 4);
        due("another one in that place", 2, () -> x.cost(0));
    }

    private static void testNoTraceToDrop() {
        TraceAligner x = new TraceAligner();
        due("none yet", STATE, () -> x.dropTrace());
        x.event(1);
        due("a buffer is none", STATE, () -> x.dropTrace());
        x.store(1);
        due("one", 0, () -> x.dropTrace());
        due("none left", STATE, () -> x.dropTrace());
        due("traces", 0, () -> x.count(2));
    }

    private static void testLengths() {
        TraceAligner x = new TraceAligner();
        trace(x, 1);
        trace(x, 1, 0);
        trace(x, 1, 0, 0, 0, 0, 0, 0, 0, 0);
        due("none", 0, () -> x.length(0));
        due("one", 1, () -> x.length(1));
        due("eight", 8, () -> x.length(2));
        dueWithoutSuchTrace((y, n) -> y.length(n));
    }

    private static void testNoLabelToCost() {
        TraceAligner x = new TraceAligner();
        dueOutside("label", 0, 5, INDEX, n -> x.setLabelCost(n, 1));
        dueOutside("label and cost", 0, 9, INDEX, n -> x.setLabelCost(6, n));
        due("label 0", 1, () -> x.setLabelCost(0, 2));
        due("label 5", 1, () -> x.setLabelCost(5, 3));
        due("label 0 again", 2, () -> x.setLabelCost(0, 2));
    }

    private static void testWrongLabelCost() {
        TraceAligner x = new TraceAligner();
        dueOutside("cost", 0, 9, ARGUMENT, n -> x.setLabelCost(5, n));
        due("cost 9", 1, () -> x.setLabelCost(5, 9));
        due("cost 0", 9, () -> x.setLabelCost(5, 0));
        due("cost 1", 0, () -> x.setLabelCost(5, 1));
    }

    private static void testNoTransitionToCost() {
        TraceAligner x = bare(0, 3);
        dueOutside("transition", 0, 2, INDEX, n -> x.setCost(n, 1));
        dueOutside("transition and cost", 0, 9, INDEX, n -> x.setCost(3, n));
        TraceAligner full = bare(0, 10);
        dueOutside("transition of 10", 0, 9, INDEX, n -> full.setCost(n, 1));
        due("the tenth", 1, () -> full.setCost(9, 1));
        due("no transitions", INDEX, () -> new TraceAligner().setCost(0, 1));
    }

    private static void testWrongCost() {
        TraceAligner x = bare(0, 10);
        dueOutside("cost", 0, 9, ARGUMENT, n -> x.setCost(9, n));
        due("cost 9", 1, () -> x.setCost(9, 9));
        due("cost 0", 9, () -> x.setCost(9, 0));
        due("cost 1", 0, () -> x.setCost(9, 1));
    }

    // ---- promises 22 to 26: alignments

    /** The line with a trace of its labels, the last marking set to one that cannot come. */
    private static TraceAligner withoutAlignment() {
        TraceAligner x = line();
        trace(x, 3, 0, 1);
        trace(x, 1);
        x.cost(0);
        x.setTokens(2, 3, true);
        return x;
    }

    private static void testNoCost() {
        TraceAligner x = withoutAlignment();
        due("no alignment", -1, () -> x.cost(0));
        due("no alignment of the empty trace", -1, () -> x.cost(1));
        x.setTokens(2, 1, true);
        due("one for nothing", 0, () -> x.cost(0));
        due("no net, empty trace", 0, () -> {
            TraceAligner y = new TraceAligner();
            trace(y, 1);
            return y.cost(0);
        });
    }

    private static void testNoMoves() {
        TraceAligner x = withoutAlignment();
        due("no alignment", -1, () -> x.moves(0));
        due("no alignment of the empty trace", -1, () -> x.moves(1));
        x.setTokens(2, 1, true);
        due("two moves", 2, () -> x.moves(0));
        setLast(x, 1, 0, 0);
        due("an alignment without moves", 0, () -> x.moves(1));
    }

    private static void testManyMoves() {
        int size = 413;
        due("the model's own number", size, () -> leastMovesOfLongWay());
        int both = 0;
        // A new object for each part, since one alone would have more than 512 calls.
        for (int from = 0; from < size; from += 60) {
            TraceAligner x = longWay();
            due("cost", 0, () -> x.cost(0));
            due("moves", size, () -> x.moves(0));
            int marking = from == 0 ? 0 : x.next(x.move(0, from - 1, 3), x.move(0, from - 1, 1));
            for (int i = from; i < Math.min(size, from + 60); i++) {
                int move = i;
                int ahead = marking;
                due("the marking ahead of move " + i, ahead, () -> x.move(0, move, 3));
                both += x.move(0, move, 0) == 0 ? 1 : 0;
                marking = x.next(marking, x.move(0, move, 1));
            }
            int behind = marking;
            if (from + 60 >= size) {
                due("the marking at the end", behind, () -> x.last());
            }
            due("a move more", ARGUMENT, () -> x.move(0, size, 0));
        }
        int passed = both;
        due("labels that are passed", 8, () -> passed);
    }

    /** The moves of the long way, counted by going on from all that is known, one move at a time. */
    private static int leastMovesOfLongWay() {
        List<List<Integer>> found = found(LONG_FIRST, LONG_INPUTS, LONG_OUTPUTS);
        int goal = found.indexOf(List.of(0, 0, 2, 2, 1, 0));
        Set<List<Integer>> known = new HashSet<>();
        List<List<Integer>> front = List.of(List.of(0, 0));
        for (int moves = 0; !front.isEmpty(); moves++) {
            List<List<Integer>> next = new ArrayList<>();
            for (List<Integer> at : front) {
                if (at.equals(List.of(8, goal))) {
                    return moves;
                }
                for (int t = 0; t < 10; t++) {
                    List<Integer> behind = behind(found.get(at.get(1)), LONG_INPUTS[t], LONG_OUTPUTS[t]);
                    int position = at.get(0) + (t == 9 ? 1 : 0);
                    if (behind != null && position < 9 && known.add(List.of(position, found.indexOf(behind)))) {
                        next.add(List.of(position, found.indexOf(behind)));
                    }
                }
            }
            front = next;
        }
        return -1;
    }

    private static void testWhatMovesTell() {
        TraceAligner x = line();
        trace(x, 1, 5, 1);
        dueAlignment("TRACE, MODEL and BOTH", x, 0, 2,
                new int[] {1, -1, 5, 0}, new int[] {2, 0, -1, 0}, new int[] {0, 1, 1, 1});
    }

    private static void testNoSuchMove() {
        TraceAligner x = line();
        trace(x, 1, 0, 1);
        dueOutside("move", 0, 1, ARGUMENT, n -> x.move(0, n, 0));
        dueOutside("what", 0, 3, ARGUMENT, n -> x.move(0, 0, n));
        dueOutside("what, and no move", 0, 3, ARGUMENT, n -> x.move(0, 2, n));
        due("the last move and what", 1, () -> x.move(0, 1, 3));
        due("the first move and what", 0, () -> x.move(0, 0, 0));
        setLast(x, 1, 0, 0);
        trace(x, 1);
        due("no moves", ARGUMENT, () -> x.move(1, 0, 0));
        due("no moves, number -1", ARGUMENT, () -> x.move(1, -1, 0));
        TraceAligner none = withoutAlignment();
        dueOutside("no alignment", 0, 0, ARGUMENT, n -> none.move(0, n, 0));
        due("no alignment, number 0", ARGUMENT, () -> none.move(0, 0, 0));
        due("no alignment, number -1", ARGUMENT, () -> none.move(0, -1, 0));
    }

    private static void testNoWorst() {
        TraceAligner x = withoutAlignment();
        due("no alignment", -1, () -> x.worst(0));
        due("no alignment of the empty trace", -1, () -> x.worst(1));
        x.setLabelCost(0, 9);
        due("no alignment, a dear label", -1, () -> x.worst(0));
        x.setTokens(2, 1, true);
        due("an alignment", 12, () -> x.worst(0));
    }

    private static void testFitnessWithoutWorst() {
        TraceAligner x = new TraceAligner();
        trace(x, 1);
        due("no labels, no net", 1.0, () -> x.fitness(0));
        trace(x, 1, 5, 5);
        due("labels that are not in the net", 0.0, () -> x.fitness(1));
        x.setLabelCost(5, 0);
        due("labels for nothing", 1.0, () -> x.fitness(1));
        TraceAligner y = line();
        trace(y, 1);
        due("an empty trace", 0.0, () -> y.fitness(0));
        y.setCost(0, 0);
        y.setCost(1, 0);
        due("an empty trace, a model for nothing", 1.0, () -> y.fitness(0));
    }

    private static void testFitnessWithoutAlignment() {
        TraceAligner x = withoutAlignment();
        due("no alignment", 0.0, () -> x.fitness(0));
        due("no alignment of the empty trace", 0.0, () -> x.fitness(1));
        for (int n = 0; n < 2; n++) {
            x.setLabelCost(n, 0);
            x.setCost(n, 0);
        }
        due("no alignment, all for nothing", 0.0, () -> x.fitness(0));
        x.setTokens(2, 1, true);
        due("an alignment, all for nothing", 1.0, () -> x.fitness(0));
    }

    // ---- promises 27 to 29: all traces

    private static void testTotalsByTimes() {
        TraceAligner x = line();
        due("no traces", 0, () -> x.total(0, 0));
        trace(x, 0, 0, 1);
        due("0 times", 0, () -> x.total(0, 0));
        trace(x, 99, 0, 1);
        due("99 times", 99, () -> x.total(0, 0));
        for (int i = 2; i < 8; i++) {
            trace(x, 99, 5, 5, 5, 5, 5, 5, 5, 5);
        }
        due("six traces, each 99 times 8 labels", 6 * 99 * 8, () -> x.total(1, 5));
        due("six traces, each 99 times a move", 6 * 99, () -> x.total(2, 1));
        due("none of the kind", 0, () -> x.total(1, 0));
    }

    private static void dueTotals(TraceAligner x, int kind, int... totals) {
        for (int i = 0; i < totals.length; i++) {
            int which = i;
            due("total(" + kind + ", " + i + ")", totals[i], () -> x.total(kind, which));
        }
    }

    private static void testTotalsOfFull() {
        TraceAligner x = full();
        dueTotals(x, 0, 99, 101, 99, 99, 99, 101, 99, 3, 0, 105);
        dueTotals(x, 1, 3, 0, 9, 0, 4, 0);
        dueTotals(x, 2, 2, 0, 2, 2, 2, 0, 2, 16, 0, 0);
    }

    private static void testNoTotal() {
        TraceAligner x = line();
        trace(x, 1, 0, 5);
        dueOutside("kind", 0, 2, INDEX, n -> x.total(n, 0));
        dueOutside("transition of BOTH", 0, 1, INDEX, n -> x.total(0, n));
        dueOutside("label of TRACE", 0, 5, INDEX, n -> x.total(1, n));
        dueOutside("transition of MODEL", 0, 1, INDEX, n -> x.total(2, n));
        due("the last label", 1, () -> x.total(1, 5));
        due("the last transition", 1, () -> x.total(2, 1));
        TraceAligner full = bare(0, 10);
        dueOutside("one of 10, of BOTH", 0, 9, INDEX, n -> full.total(0, n));
        dueOutside("one of 10, of MODEL", 0, 9, INDEX, n -> full.total(2, n));
        due("the tenth", 0, () -> full.total(2, 9));
        due("no transitions", INDEX, () -> new TraceAligner().total(0, 0));
        due("no transitions, but labels", 0, () -> new TraceAligner().total(1, 0));
    }

    private static void testAllFitnessOfNothing() {
        TraceAligner x = line();
        due("no traces", 1.0, () -> x.allFitness());
        trace(x, 0, 1, 0);
        due("0 times", 1.0, () -> x.allFitness());
        trace(x, 99, 0, 1);
        due("one that fits", 1.0, () -> x.allFitness());
        trace(x, 99);
        due("an empty one as often", 1.0 - 198.0 / 594.0, () -> x.allFitness());
        for (int n = 0; n < 2; n++) {
            x.setLabelCost(n, 0);
            x.setCost(n, 0);
        }
        due("all for nothing", 1.0, () -> x.allFitness());
        TraceAligner worst = line();
        for (int i = 0; i < 8; i++) {
            trace(worst, 99, 5, 5, 5, 5, 5, 5, 5, 5);
        }
        worst.setLabelCost(5, 9);
        worst.setCost(0, 9);
        due("nothing fits, 8 traces of 99 times", 0.0, () -> worst.allFitness());
    }

    private static void testAllFitnessWithoutAlignments() {
        TraceAligner x = withoutAlignment();
        due("no alignments", 1.0, () -> x.allFitness());
        x.setTokens(2, 1, true);
        due("alignments", 1.0 - 2.0 / 14.0, () -> x.allFitness());
    }

    private static void testVisitsByTimes() {
        TraceAligner x = net(new int[] {1, 0}, new int[] {0, 1, 2}, new int[] {1, 1, 2}, new int[] {2, 2, 2});
        setLast(x, 0, 1);
        trace(x, 0, 0, 2);
        due("0 times: nothing is visited", 1.0, () -> x.precision());
        trace(x, 1, 0);
        // Marking 0: two can fire, one did; the end: one can fire, none did.
        due("once", 1.0 / 3.0, () -> x.precision());
        trace(x, 99, 1);
        due("99 times more", 200.0 / 300.0, () -> x.precision());
        trace(x, 1, 1, 2);
        // Two visits more of the end, where the third did fire now, and so for all visits there.
        due("and the end fires", 304.0 / 304.0, () -> x.precision());
    }

    private static void testPrecisionOfNothing() {
        TraceAligner x = new TraceAligner();
        due("no traces, no net", 1.0, () -> x.precision());
        trace(x, 99, 5);
        due("nothing can fire", 1.0, () -> x.precision());
        x.addTransition(4);
        due("it can fire, and never did", 0.0, () -> x.precision());
        x.dropTrace();
        due("no traces", 1.0, () -> x.precision());
        trace(x, 0, 4);
        due("0 times", 1.0, () -> x.precision());
        trace(x, 1);
        due("what fired in a trace of 0 times did not", 0.0, () -> x.precision());
        due("no alignments", 1.0, () -> withoutAlignment().precision());
    }

    // ---- promise 30: the checksum

    private static long fold(List<Integer> numbers) {
        BigInteger d = BigInteger.valueOf(181);
        for (int x : numbers) {
            d = d.multiply(BigInteger.valueOf(31)).add(BigInteger.valueOf(x));
        }
        if (d.bitLength() < 64) {
            complain("these numbers do not wrap around");
        }
        return d.longValue();
    }

    private static void add(List<Integer> numbers, int... more) {
        for (int x : more) {
            numbers.add(x);
        }
    }

    /** The numbers of the full object, with a cost of label 0 and one of transition 9. */
    private static List<Integer> numbersOfFull(int costOfLabel0, int costOfTransition9, int... costs) {
        List<Integer> numbers = new ArrayList<>();
        add(numbers, 8, 10);
        for (int t = 0; t < 10; t++) {
            int inputs = t < 7 ? 1 << t : t == 7 ? 1 : t == 8 ? 8 : 0;
            int outputs = t < 7 ? 2 << t : t == 7 ? 128 : t == 8 ? 8 : 0;
            add(numbers, t % 6, t == 9 ? costOfTransition9 : 1, inputs, outputs);
        }
        add(numbers, 1, 0, 0, 0, 0, 0, 0, 0);
        add(numbers, 0, 0, 0, 0, 0, 0, 0, 1);
        add(numbers, costOfLabel0, 1, 1, 1, 1, 7);
        add(numbers, 8, 8);
        add(numbers, 99, 8, 0, 1, 2, 3, 4, 5, 0, 3);
        add(numbers, 1, 0, 0, 1, 5, 2, 2, 1, 5, 3, 3, 0, 1, 2, 4, 1, 4, 5, 0, 6, 2, 3, 2);
        add(numbers, 8);
        add(numbers, costs);
        return numbers;
    }

    private static void testWrapAround() {
        Set<Boolean> signs = new HashSet<>();
        for (int cost = 0; cost < 10; cost++) {
            TraceAligner x = full();
            int other = 9 - cost;
            x.setLabelCost(0, cost);
            x.setCost(9, other);
            // Label 5 is so dear that it goes the long way too; 0, 1 and 2 do only if passing 0 is dear.
            long due = fold(numbersOfFull(cost, other, 0, 1, 6, 5, Math.min(cost + 1, 4), 2, 1, 2));
            due("digest with a label of " + cost, due, () -> x.digest());
            signs.add(due < 0);
        }
        if (signs.size() < 2) {
            complain("all of these are of one sign");
        }
    }

    private static void testDigestOfTooMany() {
        TraceAligner x = tooMany();
        List<Integer> numbers = new ArrayList<>();
        add(numbers, 4, 4, 0, 1, 0, 1, 0, 1, 0, 2, 0, 1, 0, 4, 0, 1, 0, 8, 0, 0, 0, 0, 0, 0, 0, 0, 1, 1, 1, 1, 1, 1);
        List<Integer> withTrace = new ArrayList<>(numbers);
        add(numbers, 0, 0, -1);
        add(withTrace, 0, 1, 9, 0, -1);
        due("without traces", fold(numbers), () -> x.digest());
        x.store(9);
        due("with a trace, whose cost is left out", fold(withTrace), () -> x.digest());
        due("without a trace again", fold(numbers), () -> {
            x.dropTrace();
            return x.digest();
        });
    }

    private static void testDigestWithoutAlignment() {
        TraceAligner x = withoutAlignment();
        List<Integer> numbers = new ArrayList<>();
        add(numbers, 3, 2, 0, 1, 1, 2, 1, 1, 2, 4, 1, 0, 0, 0, 0, 3);
        add(numbers, 1, 1, 1, 1, 1, 1, 0, 2, 3, 2, 0, 1, 1, 0, 3, -1, -1);
        due("two costs of -1", fold(numbers), () -> x.digest());
    }

    private static void testDigestOfNothing() {
        due("a new object", 181L, () -> {
            // Taken back number by number, from the last one: a marking, no traces, an empty buffer, six
            // labels that cost 1, no transitions and no places.
            long d = new TraceAligner().digest();
            for (int x : new int[] {1, 0, 0, 1, 1, 1, 1, 1, 1, 0, 0}) {
                if ((d - x) % 31 != 0) {
                    return -1L;
                }
                d = (d - x) / 31;
            }
            return d;
        });
    }

    // ---- the sentences

    private static void checkDescription() {
        edge(0, "An object is used for at most 512 calls after it has been made", EdgesTest::testLastCallOfAnObject);
        edge(0, "There are at most 8 places and at most 10 transitions, each numbered from 0 in the order of their"
                + " creation.", EdgesTest::testFullNet);
        edge(0, "A transition has a label, 0 to 5, or is silent", EdgesTest::testLabels);
        edge(0, "(a place can be both)", EdgesTest::testPlaceThatIsBoth);
        edge(0, "A marking says how many tokens each place has, 0 to 3.", EdgesTest::testTokensOfMarkings);
        edge(0, "at first no place has tokens in them", EdgesTest::testNoTokensAtFirst);
        edge(0, "A transition can fire in a marking if each of its input places has a token",
                EdgesTest::testTokensInInputPlaces);
        edge(0, "behind it no place would have more than 3 tokens", EdgesTest::testTokensBehind);
        edge(0, "Sets of transitions are told as the sum of the powers 2^k of their numbers k.",
                EdgesTest::testSetsOfTransitions);
        edge(0, "They are numbered from 0 in the order in which they are found", EdgesTest::testNumbersOfMarkings);
        edge(0, "If there are more than 200, there are too many.", EdgesTest::testTwoHundredMarkings);
        edge(0, "There are at most 8 traces, numbered from 0 in the order in which they were stored",
                EdgesTest::testNumbersOfTraces);
        edge(0, "a trace is a row of at most 8 labels, perhaps none", EdgesTest::testLabelsOfTraces);
        edge(0, "a number of times, 0 to 99", EdgesTest::testTimes);
        edge(0, "At first it is at the beginning of the trace, and in the first marking.", EdgesTest::testBeginning);
        edge(0, "it costs nothing", EdgesTest::testBothCostsNothing);
        edge(0, "it costs what this label costs, 0 to 9 (1 at first)", EdgesTest::testCostOfTrace);
        edge(0, "it costs what this transition costs, 0 to 9 (at first 0 if it is silent, otherwise 1)",
                EdgesTest::testCostOfModel);
        edge(0, "Behind the last move all labels of the trace are passed, and the marking is the last one.",
                EdgesTest::testEndOfAlignments);
        edge(0, "The alignment that is meant has the least sum of costs; of several, the least number of moves",
                EdgesTest::testLeastCostsThenMoves);
        edge(0, "A trace has no alignment if the last marking cannot come (it is not one of the markings of the net).",
                EdgesTest::testLastThatCannotCome);
        edge(0, "The worst cost of a trace is that of its own labels all together, plus the least cost of an alignment"
                + " of the empty trace.", EdgesTest::testWorstCosts);
        edge(0, "A method that throws an exception changes nothing.", EdgesTest::testRefusedCallsChangeNothing);
        edge(0, "If several exceptions apply, the one that is named first is thrown.",
                EdgesTest::testFirstNamedException);
    }

    private static void checkNet() {
        edge(1, "Creates an aligner without places, transitions and traces.", EdgesTest::testNewObject);
        edge(2, "Returns its number.", EdgesTest::testPlaces);
        edge(2, "Throws `IllegalStateException` if there are 8 places", EdgesTest::testNinthPlace);
        edge(3, "Adds a transition without places.", EdgesTest::testTransitionWithoutPlaces);
        edge(3, "`label`: its label; -1 if it is silent", EdgesTest::testSilentLabel);
        edge(3, "Throws `IllegalArgumentException` if label is not -1 to 5", EdgesTest::testWrongLabelOfTransition);
        edge(3, "Throws `IllegalStateException` if there are 10 transitions", EdgesTest::testEleventhTransition);
        edge(4, "Makes a place an input or output place of a transition, or no more.", EdgesTest::testLinkOrNoMore);
        edge(4, "Returns whether it was one before.", EdgesTest::testLinkBefore);
        edge(4, "Throws `IndexOutOfBoundsException` if there is no such transition or place",
                EdgesTest::testLinkOfNothing);
        edge(5, "Sets how many tokens a place has in the first or the last marking.",
                EdgesTest::testTokensOfBothMarkings);
        edge(5, "Returns the number before.", EdgesTest::testTokensBefore);
        edge(5, "Throws `IndexOutOfBoundsException` if there is no such place", EdgesTest::testTokensOfNoPlace);
        edge(5, "Throws `IllegalArgumentException` if tokens is not 0 to 3", EdgesTest::testWrongTokens);
        edge(6, "`what`: 0 places, 1 transitions, 2 traces", EdgesTest::testCounts);
        edge(6, "Throws `IndexOutOfBoundsException` if what is not 0 to 2",
                () -> dueOutside("what", 0, 2, INDEX, n -> full().count(n)));
        edge(7, "Returns its label; -1 if it is silent.", EdgesTest::testSilentLabel);
        edge(7, "Throws `IndexOutOfBoundsException` if there is no such transition",
                EdgesTest::testLabelOfNoTransition);
    }

    private static final String TOO_MANY = "Throws `IllegalStateException` if the net has too many markings";
    private static final String NO_MARKING = "Throws `IndexOutOfBoundsException` if there is no such marking";
    private static final String NO_TRACE = "Throws `IndexOutOfBoundsException` if there is no such trace";

    private static void checkMarkings() {
        edge(8, "Returns the number of markings of the net; -1 if there are too many.",
                EdgesTest::testNumberOfMarkings);
        edge(9, TOO_MANY, () -> dueWithTooMany(3, x -> x.tokens(199, 3)));
        edge(9, NO_MARKING + " or place", EdgesTest::testTokensWithoutPlace);
        edge(10, TOO_MANY, () -> dueWithTooMany(9, x -> x.enabled(0)));
        edge(10, NO_MARKING, () -> dueWithoutSuchMarking((x, m) -> x.enabled(m)));
        edge(11, "Returns the marking behind it when the transition fires; -1 if it cannot.",
                EdgesTest::testNextThatCannotFire);
        edge(11, TOO_MANY, () -> dueWithTooMany(1, x -> x.next(0, 0)));
        edge(11, NO_MARKING + " or transition", EdgesTest::testNextWithoutTransition);
        edge(12, "Returns the number of the last marking among those of the net; -1 if it is none of them.",
                EdgesTest::testLastAmongMarkings);
        edge(12, TOO_MANY, () -> dueWithTooMany(199, x -> x.last()));
        edge(13, "other than the last one, in which no transition can fire.", EdgesTest::testDeadBesideTheLast);
        edge(13, TOO_MANY, () -> dueWithTooMany(0, x -> x.dead()));
        edge(14, "Returns the set of the transitions that can fire in some marking of the net.",
                EdgesTest::testLiveTransitions);
        edge(14, TOO_MANY, () -> dueWithTooMany(31, x -> x.live()));
        edge(15, "from it to the last marking; -1 if these do not lead there.", EdgesTest::testAway);
        edge(15, "Returns the least number of transitions that fire, one after the other", EdgesTest::testLongWay);
        edge(15, TOO_MANY, () -> dueWithTooMany(15, x -> x.away(0)));
        edge(15, NO_MARKING, () -> dueWithoutSuchMarking((x, m) -> x.away(m)));
    }

    private static void checkTraces() {
        edge(16, "Returns the number of labels in the buffer.", EdgesTest::testBuffer);
        edge(16, "Throws `IllegalArgumentException` if label is not 0 to 5", EdgesTest::testWrongEvent);
        edge(16, "Throws `IllegalStateException` if there are 8 labels in the buffer", EdgesTest::testFullBuffer);
        edge(17, "Stores the buffer as a trace; it is empty then.", EdgesTest::testStoredBuffer);
        edge(17, "Throws `IllegalArgumentException` if times is not 0 to 99", EdgesTest::testWrongTimes);
        edge(17, "Throws `IllegalStateException` if there are 8 traces", EdgesTest::testNinthTrace);
        edge(18, "Returns how many are left.", EdgesTest::testDroppedTraces);
        edge(18, "Throws `IllegalStateException` if there is none", EdgesTest::testNoTraceToDrop);
        edge(19, "Returns the number of its labels.", EdgesTest::testLengths);
        edge(19, NO_TRACE, () -> dueWithoutSuchTrace((x, n) -> x.length(n)));
        edge(20, "Throws `IndexOutOfBoundsException` if label is not 0 to 5", EdgesTest::testNoLabelToCost);
        edge(20, "Throws `IllegalArgumentException` if cost is not 0 to 9", EdgesTest::testWrongLabelCost);
        edge(21, "Throws `IndexOutOfBoundsException` if there is no such transition",
                EdgesTest::testNoTransitionToCost);
        edge(21, "Throws `IllegalArgumentException` if cost is not 0 to 9", EdgesTest::testWrongCost);
    }

    private static void checkAlignments() {
        edge(22, "Returns the cost of its alignment; -1 if it has none.", EdgesTest::testNoCost);
        edge(22, NO_TRACE, () -> dueWithoutSuchTrace((x, n) -> x.cost(n)));
        edge(22, TOO_MANY, () -> dueWithTooMany(14, x -> x.cost(0)));
        edge(23, "Returns the number of moves of its alignment; -1 if it has none.", EdgesTest::testNoMoves);
        edge(23, NO_TRACE, () -> dueWithoutSuchTrace((x, n) -> x.moves(n)));
        edge(23, TOO_MANY, () -> dueWithTooMany(15, x -> x.moves(0)));
        edge(24, "`move`: the number of a move of its alignment, from 0", EdgesTest::testManyMoves);
        edge(24, "1 the transition, -1 for TRACE; 2 the label that is passed, -1 for MODEL",
                EdgesTest::testWhatMovesTell);
        edge(24, NO_TRACE, () -> dueWithoutSuchTrace((x, n) -> x.move(n, 0, 0)));
        edge(24, TOO_MANY, () -> dueWithTooMany(2, x -> x.move(0, 14, 0)));
        edge(24, "Throws `IllegalArgumentException` if there is no such move, or what is not 0 to 3",
                EdgesTest::testNoSuchMove);
        edge(25, "Returns its worst cost; -1 if it has no alignment.", EdgesTest::testNoWorst);
        edge(25, NO_TRACE, () -> dueWithoutSuchTrace((x, n) -> x.worst(n)));
        edge(25, TOO_MANY, () -> dueWithTooMany(16, x -> x.worst(0)));
        edge(26, "1 if the worst cost is 0", EdgesTest::testFitnessWithoutWorst);
        edge(26, "0 if it has no alignment", EdgesTest::testFitnessWithoutAlignment);
        edge(26, NO_TRACE, () -> dueWithoutSuchTrace((x, n) -> x.fitness(n)));
        edge(26, TOO_MANY, () -> dueWithTooMany(1.0 - 14.0 / 16.0, x -> x.fitness(0)));
    }

    private static void checkAllTraces() {
        edge(27, "each as often as its trace has times", EdgesTest::testTotalsByTimes);
        edge(27, "Counts moves over the alignments of all traces", EdgesTest::testTotalsOfFull);
        edge(27, "Throws `IndexOutOfBoundsException` if kind is not 0 to 2, or there is no such label or transition",
                EdgesTest::testNoTotal);
        edge(27, TOO_MANY, () -> dueWithTooMany(3, x -> x.total(2, x.count(1) - 1)));
        edge(28, "Returns the sum of the costs of all traces",
                () -> due("8 traces", 1.0 - 42.0 / 1547.0, () -> full().allFitness()));
        edge(28, "1 if that is 0", EdgesTest::testAllFitnessOfNothing);
        edge(28, "(traces without alignments are left aside)", EdgesTest::testAllFitnessWithoutAlignments);
        edge(28, TOO_MANY, () -> dueWithTooMany(1.0 - 14.0 / 16.0, x -> x.allFitness()));
        edge(29, "In each alignment of a trace with times, each marking ahead of a BOTH or MODEL is visited, and the"
                + " marking at the end.", () -> due("8 traces", 1203.0 / 1910.0, () -> full().precision()));
        edge(29, "For each visit, as often as its trace has times", EdgesTest::testVisitsByTimes);
        edge(29, "Returns the quotient of the latter and the former number; 1 if the former is 0.",
                EdgesTest::testPrecisionOfNothing);
        // 16 markings are visited, in which 30 transitions can fire, and one fires in each but the last.
        edge(29, TOO_MANY, () -> dueWithTooMany(15.0 / 30.0, x -> x.precision()));
    }

    private static void checkDigest() {
        edge(30, "A number d starts with 181", EdgesTest::testDigestOfNothing);
        edge(30, "which wraps around as a 64-bit integer", EdgesTest::testWrapAround);
        edge(30, "the number of markings of the net, -1 if there are too many", EdgesTest::testDigestOfTooMany);
        edge(30, "for each trace the cost of its alignment, or -1.", EdgesTest::testDigestWithoutAlignment);
    }

    // ---- the document

    private static int sectionOf(String heading) {
        if (heading.startsWith("## Promise ")) {
            return Integer.parseInt(heading.substring(11, heading.indexOf(':')));
        }
        return heading.startsWith("## Not promised") ? -1 : 0;
    }

    /** Each sentence is one of the document, and each that names a refusal or another answer was told. */
    private static void compareWithDocument() throws IOException {
        current = DOCUMENT.toString();
        if (!Files.isReadable(DOCUMENT)) {
            System.out.println(DOCUMENT + " is not there, and was not compared");
            return;
        }
        Map<Integer, StringBuilder> sections = new HashMap<>();
        int section = 0;
        for (String line : Files.readAllLines(DOCUMENT)) {
            section = line.startsWith("## ") ? sectionOf(line) : section;
            sections.computeIfAbsent(section, n -> new StringBuilder()).append(line).append('\n');
            if (section > 0 && (line.startsWith("Throws ") || line.startsWith("Returns "))) {
                dueTold(section, line);
            }
        }
        for (int promise : TOLD.keySet()) {
            for (String sentence : TOLD.get(promise)) {
                if (!sections.containsKey(promise) || sections.get(promise).indexOf(sentence) < 0) {
                    complain("promise " + promise + " does not say: " + sentence);
                }
            }
        }
    }

    private static void dueTold(int promise, String line) {
        for (String part : line.startsWith("Throws ") ? new String[] {line} : line.split("; ")) {
            List<String> told = TOLD.getOrDefault(promise, new ArrayList<>());
            if (part.contains(" if ") && told.stream().noneMatch(s -> s.contains(part) || part.contains(s))) {
                complain("promise " + promise + " says, and no test tells: " + part);
            }
        }
    }

    public static void main(String[] args) throws IOException {
        checkDescription();
        checkNet();
        checkMarkings();
        checkTraces();
        checkAlignments();
        checkAllTraces();
        checkDigest();
        compareWithDocument();
        System.out.println("EdgesTest: " + wrong + " answers are not as due");
        if (wrong != 0) System.exit(1);
    }
}
