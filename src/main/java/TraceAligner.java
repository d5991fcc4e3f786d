import java.util.Arrays;

/**
 * An aligner of traces and process models: it lays each trace beside a net at the least cost,
 * and judges the net by all traces.
 */
public final class TraceAligner {
    private static final int MAX_PLACES = 8;
    private static final int MAX_TRANSITIONS = 10;
    private static final int LABELS = 6;
    private static final int MAX_TOKENS = 3;
    private static final int MAX_MARKINGS = 200;
    private static final int MAX_TRACES = 8;
    private static final int MAX_EVENTS = 8;
    private static final int MAX_TIMES = 99;
    private static final int MAX_COST = 9;

    private static final int SILENT = -1;
    private static final int NONE = -1;

    private static final int BOTH = 0;
    private static final int TRACE = 1;
    private static final int MODEL = 2;

    /** A marking is held as one number, with two bits a place, so that two are compared at once. */
    private static final int PLACE_BITS = 2;

    /**
     * A weight is a cost times this, plus a number of moves, so that one comparison puts the cost
     * ahead of the moves. The best alignment comes to no marking twice at the same place of the
     * trace, and so has fewer moves than this.
     */
    private static final int COST_WEIGHT = 4096;
    private static final int MOVE_WEIGHT = 1;
    /** The weight where no way leads on; a weight can be added to it without a wrap-around. */
    private static final int FAR = 1 << 30;

    private final Net net;
    private final MarkingGraph graph;
    private final PathFinder finder;
    private final int[] labelCosts;
    private final int[] buffer;
    private int buffered;
    private final Trace[] traces;
    private int traceCount;
    private final int[] firedSets;

    public TraceAligner() {
        net = new Net();
        graph = new MarkingGraph(net);
        labelCosts = new int[LABELS];
        Arrays.fill(labelCosts, 1);
        finder = new PathFinder(net, graph, labelCosts);
        buffer = new int[MAX_EVENTS];
        traces = new Trace[MAX_TRACES];
        for (int i = 0; i < MAX_TRACES; i++) {
            traces[i] = new Trace();
        }
        firedSets = new int[MAX_MARKINGS];
    }

    public int addPlace() throws IllegalStateException {
        if (net.placeCount >= MAX_PLACES) {
            throw new IllegalStateException("there are 8 places");
        }
        forgetMarkings();
        return net.appendPlace();
    }

    public int addTransition(int label) throws IllegalArgumentException, IllegalStateException {
        if (label != SILENT && isNoLabel(label)) {
            throw new IllegalArgumentException("the label is not -1 to 5");
        }
        if (net.transitionCount >= MAX_TRANSITIONS) {
            throw new IllegalStateException("there are 10 transitions");
        }
        forgetMarkings();
        return net.appendTransition(label);
    }

    public boolean link(int transition, int place, boolean isInput, boolean isOn)
            throws IndexOutOfBoundsException {
        requireTransition(transition);
        requirePlace(place);
        forgetMarkings();
        int[] sets = isInput ? net.inputs : net.outputs;
        boolean wasOn = isIn(sets[transition], place);
        sets[transition] = isOn ? sets[transition] | (1 << place) : sets[transition] & ~(1 << place);
        return wasOn;
    }

    public int setTokens(int place, int tokens, boolean isLast)
            throws IndexOutOfBoundsException, IllegalArgumentException {
        requirePlace(place);
        if (tokens < 0 || tokens > MAX_TOKENS) {
            throw new IllegalArgumentException("the number of tokens is not 0 to 3");
        }
        forgetMarkings();
        int[] marking = isLast ? net.lastTokens : net.firstTokens;
        int before = marking[place];
        marking[place] = tokens;
        return before;
    }

    public int count(int what) throws IndexOutOfBoundsException {
        switch (what) {
            case 0:
                return net.placeCount;
            case 1:
                return net.transitionCount;
            case 2:
                return traceCount;
            default:
                throw new IndexOutOfBoundsException("what is counted is not 0 to 2");
        }
    }

    public int label(int transition) throws IndexOutOfBoundsException {
        requireTransition(transition);
        return net.labels[transition];
    }

    public int markings() {
        graph.explore();
        return graph.size;
    }

    public int tokens(int marking, int place) throws IllegalStateException, IndexOutOfBoundsException {
        requireMarkings();
        requireMarking(marking);
        requirePlace(place);
        return tokensIn(graph.codes[marking], place);
    }

    public int enabled(int marking) throws IllegalStateException, IndexOutOfBoundsException {
        requireMarkings();
        requireMarking(marking);
        return graph.enabledSets[marking];
    }

    public int next(int marking, int transition) throws IllegalStateException, IndexOutOfBoundsException {
        requireMarkings();
        requireMarking(marking);
        requireTransition(transition);
        return graph.follower(marking, transition);
    }

    public int last() throws IllegalStateException {
        requireMarkings();
        return graph.lastMarking;
    }

    public int dead() throws IllegalStateException {
        requireMarkings();
        int found = 0;
        for (int marking = 0; marking < graph.size; marking++) {
            if (marking != graph.lastMarking && graph.enabledSets[marking] == 0) {
                found++;
            }
        }
        return found;
    }

    public int live() throws IllegalStateException {
        requireMarkings();
        int set = 0;
        for (int marking = 0; marking < graph.size; marking++) {
            set |= graph.enabledSets[marking];
        }
        return set;
    }

    public int away(int marking) throws IllegalStateException, IndexOutOfBoundsException {
        requireMarkings();
        requireMarking(marking);
        return finder.stepsToLast(marking);
    }

    public int event(int label) throws IllegalArgumentException, IllegalStateException {
        if (isNoLabel(label)) {
            throw new IllegalArgumentException("the label is not 0 to 5");
        }
        if (buffered >= MAX_EVENTS) {
            throw new IllegalStateException("there are 8 labels in the buffer");
        }
        buffer[buffered] = label;
        buffered++;
        return buffered;
    }

    public int store(int times) throws IllegalArgumentException, IllegalStateException {
        if (times < 0 || times > MAX_TIMES) {
            throw new IllegalArgumentException("the number of times is not 0 to 99");
        }
        if (traceCount >= MAX_TRACES) {
            throw new IllegalStateException("there are 8 traces");
        }
        traces[traceCount].take(buffer, buffered, times);
        buffered = 0;
        traceCount++;
        return traceCount - 1;
    }

    public int dropTrace() throws IllegalStateException {
        if (traceCount == 0) {
            throw new IllegalStateException("there is no trace");
        }
        traceCount--;
        return traceCount;
    }

    public int length(int trace) throws IndexOutOfBoundsException {
        requireTrace(trace);
        return traces[trace].size;
    }

    public int setLabelCost(int label, int cost) throws IndexOutOfBoundsException, IllegalArgumentException {
        if (isNoLabel(label)) {
            throw new IndexOutOfBoundsException("there is no such label");
        }
        requireCost(cost);
        forgetAlignments();
        int before = labelCosts[label];
        labelCosts[label] = cost;
        return before;
    }

    public int setCost(int transition, int cost) throws IndexOutOfBoundsException, IllegalArgumentException {
        requireTransition(transition);
        requireCost(cost);
        forgetAlignments();
        int before = net.costs[transition];
        net.costs[transition] = cost;
        return before;
    }

    public int cost(int trace) throws IndexOutOfBoundsException, IllegalStateException {
        return alignedTrace(trace).leastCost;
    }

    public int moves(int trace) throws IndexOutOfBoundsException, IllegalStateException {
        return alignedTrace(trace).moveCount;
    }

    public int move(int trace, int move, int what)
            throws IndexOutOfBoundsException, IllegalStateException, IllegalArgumentException {
        Trace aligned = alignedTrace(trace);
        if (move < 0 || move >= aligned.moveCount) {
            throw new IllegalArgumentException("there is no such move");
        }
        int packed = aligned.path[move];
        switch (what) {
            case 0:
                return kindOf(packed);
            case 1:
                return transitionOf(packed);
            case 2:
                return labelOf(packed);
            case 3:
                return markingOf(packed);
            default:
                throw new IllegalArgumentException("what is told is not 0 to 3");
        }
    }

    public int worst(int trace) throws IndexOutOfBoundsException, IllegalStateException {
        return alignedTrace(trace).worstCost;
    }

    public double fitness(int trace) throws IndexOutOfBoundsException, IllegalStateException {
        Trace aligned = alignedTrace(trace);
        if (aligned.hasNoAlignment()) {
            return 0.0;
        }
        return fitnessOf(aligned.leastCost, aligned.worstCost);
    }

    public int total(int kind, int which) throws IndexOutOfBoundsException, IllegalStateException {
        if (kind < BOTH || kind > MODEL) {
            throw new IndexOutOfBoundsException("the kind is not 0 to 2");
        }
        if (which < 0 || which >= (kind == TRACE ? LABELS : net.transitionCount)) {
            throw new IndexOutOfBoundsException("there is no such label or transition");
        }
        requireMarkings();
        int sum = 0;
        for (int i = 0; i < traceCount; i++) {
            finder.align(traces[i]);
            sum += traces[i].times * traces[i].countMoves(kind, which);
        }
        return sum;
    }

    public double allFitness() throws IllegalStateException {
        requireMarkings();
        int costs = 0;
        int worstCosts = 0;
        for (int i = 0; i < traceCount; i++) {
            finder.align(traces[i]);
            if (!traces[i].hasNoAlignment()) {
                costs += traces[i].times * traces[i].leastCost;
                worstCosts += traces[i].times * traces[i].worstCost;
            }
        }
        return fitnessOf(costs, worstCosts);
    }

    public double precision() throws IllegalStateException {
        requireMarkings();
        collectFired();
        int allowed = 0;
        int done = 0;
        for (int i = 0; i < traceCount; i++) {
            allowed += traces[i].times * visitedSize(traces[i], graph.enabledSets);
            done += traces[i].times * visitedSize(traces[i], firedSets);
        }
        return allowed == 0 ? 1.0 : (double) done / (double) allowed;
    }

    public long digest() {
        long d = digestOfNet(181L);
        for (int label = 0; label < LABELS; label++) {
            d = d * 31 + labelCosts[label];
        }
        d = d * 31 + buffered;
        d = digestOfTraces(d);
        graph.explore();
        d = d * 31 + graph.size;
        if (graph.size != NONE) {
            for (int i = 0; i < traceCount; i++) {
                finder.align(traces[i]);
                d = d * 31 + traces[i].leastCost;
            }
        }
        return d;
    }

    private long digestOfNet(long start) {
        long d = start * 31 + net.placeCount;
        d = d * 31 + net.transitionCount;
        for (int transition = 0; transition < net.transitionCount; transition++) {
            d = d * 31 + net.labels[transition];
            d = d * 31 + net.costs[transition];
            d = d * 31 + net.inputs[transition];
            d = d * 31 + net.outputs[transition];
        }
        for (int place = 0; place < net.placeCount; place++) {
            d = d * 31 + net.firstTokens[place];
        }
        for (int place = 0; place < net.placeCount; place++) {
            d = d * 31 + net.lastTokens[place];
        }
        return d;
    }

    private long digestOfTraces(long start) {
        long d = start * 31 + traceCount;
        for (int i = 0; i < traceCount; i++) {
            Trace trace = traces[i];
            d = d * 31 + trace.times;
            d = d * 31 + trace.size;
            for (int position = 0; position < trace.size; position++) {
                d = d * 31 + trace.labels[position];
            }
        }
        return d;
    }

    private void forgetMarkings() {
        graph.isExplored = false;
        forgetAlignments();
    }

    private void forgetAlignments() {
        for (int i = 0; i < MAX_TRACES; i++) {
            traces[i].isAligned = false;
        }
    }

    private static boolean isNoLabel(int label) {
        return label < 0 || label >= LABELS;
    }

    private void requirePlace(int place) {
        if (place < 0 || place >= net.placeCount) {
            throw new IndexOutOfBoundsException("there is no such place");
        }
    }

    private void requireTransition(int transition) {
        if (transition < 0 || transition >= net.transitionCount) {
            throw new IndexOutOfBoundsException("there is no such transition");
        }
    }

    private void requireMarkings() {
        graph.explore();
        if (graph.size == NONE) {
            throw new IllegalStateException("the net has too many markings");
        }
    }

    private void requireMarking(int marking) {
        if (marking < 0 || marking >= graph.size) {
            throw new IndexOutOfBoundsException("there is no such marking");
        }
    }

    private void requireTrace(int trace) {
        if (trace < 0 || trace >= traceCount) {
            throw new IndexOutOfBoundsException("there is no such trace");
        }
    }

    private static void requireCost(int cost) {
        if (cost < 0 || cost > MAX_COST) {
            throw new IllegalArgumentException("the cost is not 0 to 9");
        }
    }

    private Trace alignedTrace(int trace) {
        requireTrace(trace);
        requireMarkings();
        finder.align(traces[trace]);
        return traces[trace];
    }

    private static double fitnessOf(int cost, int worstCost) {
        return worstCost == 0 ? 1.0 : 1.0 - (double) cost / (double) worstCost;
    }

    private void collectFired() {
        Arrays.fill(firedSets, 0);
        for (int i = 0; i < traceCount; i++) {
            finder.align(traces[i]);
            if (traces[i].times > 0) {
                traces[i].addFired(firedSets);
            }
        }
    }

    /** How many transitions the sets of all visited markings hold together. */
    private int visitedSize(Trace trace, int[] sets) {
        if (trace.hasNoAlignment()) {
            return 0;
        }
        int sum = Integer.bitCount(sets[graph.lastMarking]);
        for (int i = 0; i < trace.moveCount; i++) {
            if (kindOf(trace.path[i]) != TRACE) {
                sum += Integer.bitCount(sets[markingOf(trace.path[i])]);
            }
        }
        return sum;
    }

    private static boolean isIn(int set, int number) {
        return ((set >> number) & 1) != 0;
    }

    private static int tokensIn(int code, int place) {
        return (code >> (PLACE_BITS * place)) & MAX_TOKENS;
    }

    private static int packMove(int kind, int transition, int label, int marking) {
        return kind | ((transition + 1) << 2) | ((label + 1) << 6) | (marking << 9);
    }

    private static int kindOf(int packed) {
        return packed & 3;
    }

    private static int transitionOf(int packed) {
        return ((packed >> 2) & 15) - 1;
    }

    private static int labelOf(int packed) {
        return ((packed >> 6) & 7) - 1;
    }

    private static int markingOf(int packed) {
        return packed >> 9;
    }

    /** The places and transitions as they were put in. */
    private static final class Net {
        int placeCount;
        int transitionCount;
        final int[] labels = new int[MAX_TRANSITIONS];
        final int[] costs = new int[MAX_TRANSITIONS];
        final int[] inputs = new int[MAX_TRANSITIONS];
        final int[] outputs = new int[MAX_TRANSITIONS];
        final int[] firstTokens = new int[MAX_PLACES];
        final int[] lastTokens = new int[MAX_PLACES];

        int appendPlace() {
            placeCount++;
            return placeCount - 1;
        }

        int appendTransition(int newLabel) {
            labels[transitionCount] = newLabel;
            costs[transitionCount] = newLabel == SILENT ? 0 : 1;
            transitionCount++;
            return transitionCount - 1;
        }

        int codeOf(int[] tokensOfPlaces) {
            int code = 0;
            for (int place = 0; place < placeCount; place++) {
                code |= tokensOfPlaces[place] << (PLACE_BITS * place);
            }
            return code;
        }

        /** The marking behind a transition; NONE if it cannot fire. */
        int codeBehind(int code, int transition) {
            int behind = code;
            for (int place = 0; place < placeCount; place++) {
                int taken = isIn(inputs[transition], place) ? 1 : 0;
                int put = isIn(outputs[transition], place) ? 1 : 0;
                int there = tokensIn(code, place);
                if (there < taken || there - taken + put > MAX_TOKENS) {
                    return NONE;
                }
                behind += (put - taken) << (PLACE_BITS * place);
            }
            return behind;
        }
    }

    /** The markings of the net, and what leads from one to another. */
    private static final class MarkingGraph {
        final Net net;
        final int[] codes = new int[MAX_MARKINGS];
        final int[] enabledSets = new int[MAX_MARKINGS];
        final int[] followers = new int[MAX_MARKINGS * MAX_TRANSITIONS];
        boolean isExplored;
        /** The number of markings; NONE if there are too many. */
        int size;
        /** The number of the last marking; NONE if it cannot come. */
        int lastMarking;

        MarkingGraph(Net net) {
            this.net = net;
        }

        void explore() {
            if (isExplored) {
                return;
            }
            isExplored = true;
            lastMarking = NONE;
            codes[0] = net.codeOf(net.firstTokens);
            size = 1;
            for (int marking = 0; marking < MAX_MARKINGS && marking < size; marking++) {
                if (!followAll(marking)) {
                    size = NONE;
                    return;
                }
            }
            lastMarking = numberOf(net.codeOf(net.lastTokens));
        }

        /** Fires each transition that can fire; answers false when there are too many markings. */
        boolean followAll(int marking) {
            enabledSets[marking] = 0;
            for (int transition = 0; transition < net.transitionCount; transition++) {
                int behind = net.codeBehind(codes[marking], transition);
                int number = NONE;
                if (behind != NONE) {
                    number = numberOrAppend(behind);
                    if (number == NONE) {
                        return false;
                    }
                    enabledSets[marking] |= 1 << transition;
                }
                followers[marking * MAX_TRANSITIONS + transition] = number;
            }
            return true;
        }

        int numberOf(int code) {
            for (int marking = 0; marking < size; marking++) {
                if (codes[marking] == code) {
                    return marking;
                }
            }
            return NONE;
        }

        int numberOrAppend(int code) {
            int number = numberOf(code);
            if (number != NONE || size >= MAX_MARKINGS) {
                return number;
            }
            codes[size] = code;
            size++;
            return size - 1;
        }

        int follower(int marking, int transition) {
            return followers[marking * MAX_TRANSITIONS + transition];
        }

        /** Lets the least weights of a row, a weight a marking, come back over the transitions. */
        void relax(int[] row, int[] weights) {
            // A best way fires fewer transitions than there are markings, and each pass settles at
            // least one of them.
            for (int pass = 0; pass < size; pass++) {
                if (!relaxOnce(row, weights)) {
                    return;
                }
            }
        }

        /** Goes from behind, since most transitions lead to markings that were found later. */
        boolean relaxOnce(int[] row, int[] weights) {
            boolean isBetter = false;
            for (int marking = size - 1; marking >= 0; marking--) {
                for (int transition = 0; transition < net.transitionCount; transition++) {
                    int behind = followers[marking * MAX_TRANSITIONS + transition];
                    if (behind != NONE && row[behind] + weights[transition] < row[marking]) {
                        row[marking] = row[behind] + weights[transition];
                        isBetter = true;
                    }
                }
            }
            return isBetter;
        }
    }

    /** A stored trace, and its alignment as long as that is known. */
    private static final class Trace {
        final int[] labels = new int[MAX_EVENTS];
        int size;
        int times;
        boolean isAligned;
        /** These three are NONE if there is no alignment. */
        int leastCost;
        int worstCost;
        int moveCount;
        int[] path = new int[16];

        void take(int[] newLabels, int newSize, int newTimes) {
            System.arraycopy(newLabels, 0, labels, 0, newSize);
            size = newSize;
            times = newTimes;
            isAligned = false;
        }

        boolean hasNoAlignment() {
            return leastCost == NONE;
        }

        void setNoAlignment() {
            leastCost = NONE;
            worstCost = NONE;
            moveCount = NONE;
        }

        /** Doubles at least, so that a long run of calls leaves few old rows behind. */
        void makeRoom(int needed) {
            if (needed > path.length) {
                path = new int[Math.max(needed, 2 * path.length)];
            }
        }

        int countMoves(int kind, int which) {
            int found = 0;
            for (int i = 0; i < moveCount; i++) {
                int packed = path[i];
                int passed = kind == TRACE ? labelOf(packed) : transitionOf(packed);
                if (kindOf(packed) == kind && passed == which) {
                    found++;
                }
            }
            return found;
        }

        void addFired(int[] sets) {
            for (int i = 0; i < moveCount; i++) {
                if (kindOf(path[i]) != TRACE) {
                    sets[markingOf(path[i])] |= 1 << transitionOf(path[i]);
                }
            }
        }
    }

    /** Finds alignments: weighs all that is left from the end back, then goes the best way forth. */
    private static final class PathFinder {
        final Net net;
        final MarkingGraph graph;
        final int[] labelCosts;
        final int[] modelWeights = new int[MAX_TRANSITIONS];
        /** By passed labels and marking: the least weight from there to the end. */
        final int[][] rest = new int[MAX_EVENTS + 1][MAX_MARKINGS];

        PathFinder(Net net, MarkingGraph graph, int[] labelCosts) {
            this.net = net;
            this.graph = graph;
            this.labelCosts = labelCosts;
        }

        int stepsToLast(int marking) {
            Arrays.fill(modelWeights, MOVE_WEIGHT);
            weighEnd(rest[0]);
            return rest[0][marking] == FAR ? NONE : rest[0][marking];
        }

        void align(Trace trace) {
            if (trace.isAligned) {
                return;
            }
            trace.isAligned = true;
            if (graph.lastMarking == NONE) {
                trace.setNoAlignment();
                return;
            }
            weighAll(trace);
            trace.leastCost = rest[0][0] / COST_WEIGHT;
            trace.moveCount = rest[0][0] % COST_WEIGHT;
            // With all labels passed, what is left is the alignment of the empty trace.
            trace.worstCost = rest[trace.size][0] / COST_WEIGHT;
            for (int position = 0; position < trace.size; position++) {
                trace.worstCost += labelCosts[trace.labels[position]];
            }
            trace.makeRoom(trace.moveCount);
            walk(trace);
        }

        void weighAll(Trace trace) {
            for (int transition = 0; transition < net.transitionCount; transition++) {
                modelWeights[transition] = net.costs[transition] * COST_WEIGHT + MOVE_WEIGHT;
            }
            weighEnd(rest[trace.size]);
            for (int position = trace.size - 1; position >= 0; position--) {
                weighEvent(rest[position], rest[position + 1], trace.labels[position]);
            }
        }

        void weighEnd(int[] row) {
            Arrays.fill(row, FAR);
            if (graph.lastMarking != NONE) {
                row[graph.lastMarking] = 0;
            }
            graph.relax(row, modelWeights);
        }

        void weighEvent(int[] row, int[] passedRow, int label) {
            for (int marking = 0; marking < graph.size; marking++) {
                int least = Math.min(FAR, passedRow[marking] + traceWeight(label));
                for (int transition = 0; transition < net.transitionCount; transition++) {
                    int behind = graph.follower(marking, transition);
                    if (net.labels[transition] == label && behind != NONE) {
                        least = Math.min(least, passedRow[behind] + MOVE_WEIGHT);
                    }
                }
                row[marking] = least;
            }
            graph.relax(row, modelWeights);
        }

        int traceWeight(int label) {
            return labelCosts[label] * COST_WEIGHT + MOVE_WEIGHT;
        }

        void walk(Trace trace) {
            int position = 0;
            int marking = 0;
            for (int i = 0; i < trace.moveCount; i++) {
                int packed = bestMove(trace, position, marking);
                int fired = transitionOf(packed);
                trace.path[i] = packed;
                if (labelOf(packed) != NONE) {
                    position++;
                }
                if (fired != NONE) {
                    marking = graph.follower(marking, fired);
                }
            }
        }

        /** The first move, in the order of the document, that keeps to the least weight. */
        int bestMove(Trace trace, int position, int marking) {
            int weight = rest[position][marking];
            if (position < trace.size) {
                int label = trace.labels[position];
                int[] passedRow = rest[position + 1];
                for (int transition = 0; transition < net.transitionCount; transition++) {
                    int behind = graph.follower(marking, transition);
                    if (net.labels[transition] == label && behind != NONE
                            && passedRow[behind] + MOVE_WEIGHT == weight) {
                        return packMove(BOTH, transition, label, marking);
                    }
                }
                if (passedRow[marking] + traceWeight(label) == weight) {
                    return packMove(TRACE, NONE, label, marking);
                }
            }
            return packMove(MODEL, bestModelTransition(rest[position], marking), NONE, marking);
        }

        int bestModelTransition(int[] row, int marking) {
            for (int transition = 0; transition < net.transitionCount; transition++) {
                int behind = graph.follower(marking, transition);
                if (behind != NONE && row[behind] + modelWeights[transition] == row[marking]) {
                    return transition;
                }
            }
            return NONE;
        }
    }
}
