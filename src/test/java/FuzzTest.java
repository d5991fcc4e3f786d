import java.util.ArrayList;
import java.util.Arrays;
import java.util.HashMap;
import java.util.List;
import java.util.Map;
import java.util.TreeSet;

/**
 * Long runs of calls, drawn from a fixed seed, on TraceAligner and on a plain model of the document
 * that is written in another way; each answer and each exception must be the same.
 */
public final class FuzzTest {
    private static final int RUNS = 1500;
    private static final int CALLS = 90;

    private static int wrong = 0;
    private static long seed = 20261119L;

    /** A number from 0 to below - 1. */
    private static int draw(int below) {
        seed = seed * 6364136223846793005L + 1442695040888963407L;
        return (int) ((seed >>> 33) % below);
    }

    private static boolean chance(int percent) {
        return draw(100) < percent;
    }

    /** An alignment as far as it goes: what it cost, and its moves as rows {kind, transition, label, marking}. */
    private static final class Way implements Comparable<Way> {
        final int cost;
        final int position;
        final int marking;
        final List<int[]> moves;

        Way(int cost, int position, int marking, List<int[]> moves) {
            this.cost = cost;
            this.position = position;
            this.marking = marking;
            this.moves = moves;
        }

        Way longer(int[] move, int more, int newPosition, int newMarking) {
            List<int[]> longer = new ArrayList<>(moves);
            longer.add(move);
            return new Way(cost + more, newPosition, newMarking, longer);
        }

        @Override
        public int compareTo(Way other) {
            if (cost != other.cost) {
                return Integer.compare(cost, other.cost);
            }
            if (moves.size() != other.moves.size()) {
                return Integer.compare(moves.size(), other.moves.size());
            }
            for (int i = 0; i < moves.size(); i++) {
                int[] a = moves.get(i);
                int[] b = other.moves.get(i);
                if (a[0] != b[0]) {
                    return Integer.compare(a[0], b[0]);
                }
                if (a[1] != b[1]) {
                    return Integer.compare(a[1], b[1]);
                }
            }
            if (position != other.position) {
                return Integer.compare(position, other.position);
            }
            return Integer.compare(marking, other.marking);
        }
    }

    private static final class TooMany extends Exception {
        private static final long serialVersionUID = 1L;
    }

    /** The document, said again without regard to speed. */
    private static final class Plain {
        int places;
        final List<Integer> labels = new ArrayList<>();
        final List<Integer> costs = new ArrayList<>();
        final List<boolean[]> inputs = new ArrayList<>();
        final List<boolean[]> outputs = new ArrayList<>();
        final int[] first = new int[8];
        final int[] last = new int[8];
        final int[] labelCosts = {1, 1, 1, 1, 1, 1};
        List<Integer> buffer = new ArrayList<>();
        final List<List<Integer>> traces = new ArrayList<>();
        final List<Integer> times = new ArrayList<>();
        List<String> markings;
        boolean isKnown;
        final Map<List<Integer>, Way> ways = new HashMap<>();

        void changed() {
            isKnown = false;
            ways.clear();
        }

        String text(int[] tokens) {
            StringBuilder text = new StringBuilder();
            for (int p = 0; p < places; p++) {
                text.append(tokens[p]);
            }
            return text.toString();
        }

        String fire(String marking, int t) {
            int[] tokens = new int[places];
            for (int p = 0; p < places; p++) {
                tokens[p] = marking.charAt(p) - '0';
                if (inputs.get(t)[p]) {
                    if (tokens[p] == 0) {
                        return null;
                    }
                    tokens[p]--;
                }
            }
            for (int p = 0; p < places; p++) {
                if (outputs.get(t)[p]) {
                    tokens[p]++;
                }
                if (tokens[p] > 3) {
                    return null;
                }
            }
            return text(tokens);
        }

        List<String> found() throws TooMany {
            if (!isKnown) {
                isKnown = true;
                markings = new ArrayList<>();
                markings.add(text(first));
                for (int m = 0; m < markings.size() && markings.size() <= 200; m++) {
                    for (int t = 0; t < labels.size(); t++) {
                        String behind = fire(markings.get(m), t);
                        if (behind != null && !markings.contains(behind)) {
                            markings.add(behind);
                        }
                    }
                }
            }
            if (markings.size() > 200) {
                throw new TooMany();
            }
            return markings;
        }

        int next(int m, int t) throws TooMany {
            String behind = fire(found().get(m), t);
            return behind == null ? -1 : found().indexOf(behind);
        }

        int enabled(int m) throws TooMany {
            int set = 0;
            for (int t = 0; t < labels.size(); t++) {
                set += next(m, t) < 0 ? 0 : 1 << t;
            }
            return set;
        }

        int away(int m) throws TooMany {
            int goal = found().indexOf(text(last));
            int[] steps = new int[found().size()];
            Arrays.fill(steps, -1);
            steps[m] = 0;
            List<Integer> queue = new ArrayList<>();
            queue.add(m);
            for (int i = 0; i < queue.size(); i++) {
                for (int t = 0; t < labels.size(); t++) {
                    int n = next(queue.get(i), t);
                    if (n >= 0 && steps[n] < 0) {
                        steps[n] = steps[queue.get(i)] + 1;
                        queue.add(n);
                    }
                }
            }
            return goal < 0 ? -1 : steps[goal];
        }

        /** The alignment of a trace, found from its beginning; null if there is none. */
        Way way(List<Integer> trace) throws TooMany {
            int goal = found().indexOf(text(last));
            if (goal < 0) {
                return null;
            }
            if (!ways.containsKey(trace)) {
                ways.put(trace, search(trace, goal));
            }
            return ways.get(trace);
        }

        private Way search(List<Integer> trace, int goal) throws TooMany {
            int size = found().size();
            int[][] next = new int[size][labels.size()];
            for (int m = 0; m < size; m++) {
                for (int t = 0; t < labels.size(); t++) {
                    next[m][t] = next(m, t);
                }
            }
            boolean[][] isDone = new boolean[trace.size() + 1][size];
            TreeSet<Way> open = new TreeSet<>();
            open.add(new Way(0, 0, 0, new ArrayList<>()));
            while (!open.isEmpty()) {
                Way way = open.pollFirst();
                int m = way.marking;
                if (isDone[way.position][m]) {
                    continue;
                }
                isDone[way.position][m] = true;
                if (way.position == trace.size() && m == goal) {
                    return way;
                }
                int label = way.position < trace.size() ? trace.get(way.position) : -2;
                for (int t = 0; t < labels.size(); t++) {
                    if (next[m][t] >= 0 && labels.get(t) == label) {
                        open.add(way.longer(new int[] {0, t, label, m}, 0, way.position + 1, next[m][t]));
                    }
                    if (next[m][t] >= 0) {
                        open.add(way.longer(new int[] {2, t, -1, m}, costs.get(t), way.position, next[m][t]));
                    }
                }
                if (label >= 0) {
                    open.add(way.longer(new int[] {1, -1, label, m}, labelCosts[label], way.position + 1, m));
                }
            }
            throw new AssertionError("the last marking is one of the net, but no way leads there");
        }

        int cost(List<Integer> trace) throws TooMany {
            Way way = way(trace);
            return way == null ? -1 : way.cost;
        }

        int worst(List<Integer> trace) throws TooMany {
            int sum = cost(new ArrayList<>());
            for (int label : trace) {
                sum += sum < 0 ? 0 : labelCosts[label];
            }
            return sum;
        }

        double precision() throws TooMany {
            found();
            TreeSet<String> seen = new TreeSet<>();
            for (int pass = 0; pass < 2; pass++) {
                long allowed = 0;
                long done = 0;
                for (int i = 0; i < traces.size(); i++) {
                    Way way = way(traces.get(i));
                    if (way == null || times.get(i) == 0) {
                        continue;
                    }
                    List<Integer> visits = new ArrayList<>();
                    for (int[] move : way.moves) {
                        if (move[0] != 1) {
                            visits.add(move[3]);
                            seen.add(move[3] + "/" + move[1]);
                        }
                    }
                    visits.add(way.marking);
                    for (int m : visits) {
                        for (int t = 0; t < labels.size(); t++) {
                            allowed += next(m, t) >= 0 ? times.get(i) : 0;
                            done += seen.contains(m + "/" + t) ? times.get(i) : 0;
                        }
                    }
                }
                if (pass == 1) {
                    return allowed == 0 ? 1.0 : (double) done / allowed;
                }
            }
            return -1.0;
        }

        double allFitness() throws TooMany {
            found();
            int cost = 0;
            int worst = 0;
            for (int i = 0; i < traces.size(); i++) {
                if (way(traces.get(i)) != null) {
                    cost += times.get(i) * cost(traces.get(i));
                    worst += times.get(i) * worst(traces.get(i));
                }
            }
            return worst == 0 ? 1.0 : 1.0 - (double) cost / worst;
        }

        int total(int kind, int which) throws TooMany {
            found();
            int sum = 0;
            for (int i = 0; i < traces.size(); i++) {
                Way way = way(traces.get(i));
                for (int[] move : way == null ? new ArrayList<int[]>() : way.moves) {
                    sum += move[0] == kind && move[kind == 1 ? 2 : 1] == which ? times.get(i) : 0;
                }
            }
            return sum;
        }

        int set(boolean[] places) {
            int set = 0;
            for (int p = 0; p < places.length; p++) {
                set += places[p] ? 1 << p : 0;
            }
            return set;
        }

        long digest() {
            List<Integer> numbers = new ArrayList<>();
            numbers.add(places);
            numbers.add(labels.size());
            for (int t = 0; t < labels.size(); t++) {
                numbers.addAll(List.of(labels.get(t), costs.get(t), set(inputs.get(t)), set(outputs.get(t))));
            }
            for (int p = 0; p < places; p++) {
                numbers.add(first[p]);
            }
            for (int p = 0; p < places; p++) {
                numbers.add(last[p]);
            }
            for (int cost : labelCosts) {
                numbers.add(cost);
            }
            numbers.add(buffer.size());
            numbers.add(traces.size());
            for (int i = 0; i < traces.size(); i++) {
                numbers.add(times.get(i));
                numbers.add(traces.get(i).size());
                numbers.addAll(traces.get(i));
            }
            try {
                int size = found().size();
                numbers.add(size);
                for (List<Integer> trace : traces) {
                    numbers.add(cost(trace));
                }
            } catch (TooMany e) {
                numbers.add(-1);
            }
            long d = 181;
            for (int x : numbers) {
                d = d * 31 + x;
            }
            return d;
        }
    }

    private static boolean isOut(int index, int size) {
        return index < 0 || index >= size;
    }

    /** What a call of the model answers: a number as text, or the name of the exception that is due. */
    private static String due(Plain x, String name, int[] a) {
        try {
            return dueOrTooMany(x, name, a);
        } catch (TooMany e) {
            return "IllegalStateException";
        }
    }

    private static final String INDEX = "IndexOutOfBoundsException";
    private static final String ARGUMENT = "IllegalArgumentException";
    private static final String STATE = "IllegalStateException";

    private static String dueOrTooMany(Plain x, String name, int[] a) throws TooMany {
        int transitions = x.labels.size();
        switch (name) {
            case "addPlace":
                if (x.places == 8) return STATE;
                x.changed();
                return "" + x.places++;
            case "addTransition":
                if (a[0] < -1 || a[0] > 5) return ARGUMENT;
                if (transitions == 10) return STATE;
                x.changed();
                x.labels.add(a[0]);
                x.costs.add(a[0] < 0 ? 0 : 1);
                x.inputs.add(new boolean[8]);
                x.outputs.add(new boolean[8]);
                return "" + transitions;
            case "link": {
                if (isOut(a[0], transitions) || isOut(a[1], x.places)) return INDEX;
                x.changed();
                boolean[] row = (a[2] == 1 ? x.inputs : x.outputs).get(a[0]);
                boolean before = row[a[1]];
                row[a[1]] = a[3] == 1;
                return "" + before;
            }
            case "setTokens": {
                if (isOut(a[0], x.places)) return INDEX;
                if (isOut(a[1], 4)) return ARGUMENT;
                x.changed();
                int[] row = a[2] == 1 ? x.last : x.first;
                int before = row[a[0]];
                row[a[0]] = a[1];
                return "" + before;
            }
            case "count":
                if (isOut(a[0], 3)) return INDEX;
                return "" + new int[] {x.places, transitions, x.traces.size()}[a[0]];
            case "label":
                return isOut(a[0], transitions) ? INDEX : "" + x.labels.get(a[0]);
            case "markings":
                try {
                    return "" + x.found().size();
                } catch (TooMany e) {
                    return "-1";
                }
            case "tokens":
                if (isOut(a[0], x.found().size()) || isOut(a[1], x.places)) return INDEX;
                return "" + x.found().get(a[0]).charAt(a[1]);
            case "enabled":
                return isOut(a[0], x.found().size()) ? INDEX : "" + x.enabled(a[0]);
            case "next":
                if (isOut(a[0], x.found().size()) || isOut(a[1], transitions)) return INDEX;
                return "" + x.next(a[0], a[1]);
            case "last":
                return "" + x.found().indexOf(x.text(x.last));
            case "dead": {
                int dead = 0;
                for (int m = 0; m < x.found().size(); m++) {
                    dead += x.enabled(m) == 0 && !x.found().get(m).equals(x.text(x.last)) ? 1 : 0;
                }
                return "" + dead;
            }
            case "live": {
                int live = 0;
                for (int m = 0; m < x.found().size(); m++) {
                    live |= x.enabled(m);
                }
                return "" + live;
            }
            case "away":
                return isOut(a[0], x.found().size()) ? INDEX : "" + x.away(a[0]);
            default:
                return dueOfTraces(x, name, a);
        }
    }

    private static String dueOfTraces(Plain x, String name, int[] a) throws TooMany {
        switch (name) {
            case "event":
                if (isOut(a[0], 6)) return ARGUMENT;
                if (x.buffer.size() == 8) return STATE;
                x.buffer.add(a[0]);
                return "" + x.buffer.size();
            case "store":
                if (isOut(a[0], 100)) return ARGUMENT;
                if (x.traces.size() == 8) return STATE;
                x.traces.add(x.buffer);
                x.times.add(a[0]);
                x.buffer = new ArrayList<>();
                return "" + (x.traces.size() - 1);
            case "dropTrace":
                if (x.traces.isEmpty()) return STATE;
                x.traces.remove(x.traces.size() - 1);
                x.times.remove(x.times.size() - 1);
                return "" + x.traces.size();
            case "length":
                return isOut(a[0], x.traces.size()) ? INDEX : "" + x.traces.get(a[0]).size();
            case "setLabelCost": {
                if (isOut(a[0], 6)) return INDEX;
                if (isOut(a[1], 10)) return ARGUMENT;
                x.ways.clear();
                int before = x.labelCosts[a[0]];
                x.labelCosts[a[0]] = a[1];
                return "" + before;
            }
            case "setCost":
                if (isOut(a[0], x.labels.size())) return INDEX;
                if (isOut(a[1], 10)) return ARGUMENT;
                x.ways.clear();
                return "" + x.costs.set(a[0], a[1]);
            case "total":
                if (isOut(a[0], 3) || isOut(a[1], a[0] == 1 ? 6 : x.labels.size())) return INDEX;
                return "" + x.total(a[0], a[1]);
            case "allFitness":
                return "" + x.allFitness();
            case "precision":
                return "" + x.precision();
            case "digest":
                return "" + x.digest();
            default:
                return isOut(a[0], x.traces.size()) ? INDEX : dueOfTrace(x, name, a, x.traces.get(a[0]));
        }
    }

    private static String dueOfTrace(Plain x, String name, int[] a, List<Integer> trace) throws TooMany {
        Way way = x.way(trace);
        switch (name) {
            case "cost":
                return "" + x.cost(trace);
            case "moves":
                return "" + (way == null ? -1 : way.moves.size());
            case "move":
                if (way == null || isOut(a[1], way.moves.size()) || isOut(a[2], 4)) return ARGUMENT;
                return "" + way.moves.get(a[1])[a[2]];
            case "worst":
                return "" + x.worst(trace);
            case "fitness":
                if (way == null) return "0.0";
                return "" + (x.worst(trace) == 0 ? 1.0 : 1.0 - (double) x.cost(trace) / x.worst(trace));
            default:
                throw new AssertionError(name);
        }
    }

    private static String answer(TraceAligner x, String name, int[] a) {
        try {
            switch (name) {
                case "addPlace": return "" + x.addPlace();
                case "addTransition": return "" + x.addTransition(a[0]);
                case "link": return "" + x.link(a[0], a[1], a[2] == 1, a[3] == 1);
                case "setTokens": return "" + x.setTokens(a[0], a[1], a[2] == 1);
                case "count": return "" + x.count(a[0]);
                case "label": return "" + x.label(a[0]);
                case "markings": return "" + x.markings();
                case "tokens": return "" + x.tokens(a[0], a[1]);
                case "enabled": return "" + x.enabled(a[0]);
                case "next": return "" + x.next(a[0], a[1]);
                case "last": return "" + x.last();
                case "dead": return "" + x.dead();
                case "live": return "" + x.live();
                case "away": return "" + x.away(a[0]);
                case "event": return "" + x.event(a[0]);
                case "store": return "" + x.store(a[0]);
                case "dropTrace": return "" + x.dropTrace();
                case "length": return "" + x.length(a[0]);
                case "setLabelCost": return "" + x.setLabelCost(a[0], a[1]);
                case "setCost": return "" + x.setCost(a[0], a[1]);
                case "cost": return "" + x.cost(a[0]);
                case "moves": return "" + x.moves(a[0]);
                case "move": return "" + x.move(a[0], a[1], a[2]);
                case "worst": return "" + x.worst(a[0]);
                case "fitness": return "" + x.fitness(a[0]);
                case "total": return "" + x.total(a[0], a[1]);
                case "allFitness": return "" + x.allFitness();
                case "precision": return "" + x.precision();
                case "digest": return "" + x.digest();
                default: throw new AssertionError(name);
            }
        } catch (RuntimeException e) {
            return e.getClass().getSimpleName();
        }
    }

    /** Mostly a number from 0 to below - 1, now and then one that is too small or too big. */
    private static int around(int below) {
        int edge = draw(60);
        if (edge == 0) return -1;
        if (edge == 1) return below;
        if (edge == 2) return chance(50) ? Integer.MIN_VALUE : Integer.MAX_VALUE;
        return below <= 0 ? 0 : draw(below);
    }

    private static final String[] BUILDING = {
        "addPlace", "addTransition", "link", "link", "link", "link", "link", "setTokens", "setTokens"
    };
    private static final String[] TELLING = {
        "event", "event", "event", "event", "store", "dropTrace", "setLabelCost", "setCost"
    };
    private static final String[] ASKING = {
        "count", "label", "markings", "tokens", "enabled", "next", "last", "dead", "live", "away", "length",
        "cost", "moves", "move", "move", "move", "move", "worst", "fitness", "total", "total",
        "allFitness", "precision", "digest"
    };

    private static String drawName(int call) {
        int building = call < 40 ? 75 : 8;
        if (chance(building)) {
            return BUILDING[draw(BUILDING.length)];
        }
        if (chance(45)) {
            return TELLING[draw(TELLING.length)];
        }
        return ASKING[draw(ASKING.length)];
    }

    private static int[] drawArguments(Plain x, String name) {
        int t = x.labels.size();
        int markings = x.isKnown ? Math.min(200, x.markings.size()) : 3;
        switch (name) {
            case "addTransition": return new int[] {around(7) - (chance(95) ? 1 : 0)};
            case "link": return new int[] {around(t), around(x.places), draw(2), chance(75) ? 1 : 0};
            case "setTokens": return new int[] {around(x.places), chance(70) ? draw(2) : around(4), draw(2)};
            case "count": return new int[] {around(3)};
            case "label": return new int[] {around(t)};
            case "tokens": return new int[] {around(markings), around(x.places)};
            case "enabled": return new int[] {around(markings)};
            case "away": return new int[] {around(markings)};
            case "next": return new int[] {around(markings), around(t)};
            case "event": return new int[] {around(6)};
            case "store": return new int[] {chance(20) ? 0 : around(100)};
            case "setLabelCost": return new int[] {around(6), around(10)};
            case "setCost": return new int[] {around(t), chance(30) ? 0 : around(10)};
            case "total": return new int[] {around(3), around(chance(50) ? t : 6)};
            case "length":
            case "cost":
            case "moves":
            case "worst":
            case "fitness": return new int[] {around(x.traces.size())};
            case "move": return new int[] {around(x.traces.size()), around(1 + draw(12)), around(4)};
            default: return new int[0];
        }
    }

    /** Two objects to compare, and the calls that both have had. */
    private static final class Run {
        final TraceAligner aligner = new TraceAligner();
        final Plain plain = new Plain();
        final List<String> calls = new ArrayList<>();
        boolean isWrong;

        void call(String name, int... arguments) {
            if (isWrong) {
                return;
            }
            String due = due(plain, name, arguments);
            String answer = answer(aligner, name, arguments);
            calls.add(name + Arrays.toString(arguments) + " -> " + answer);
            if (!due.equals(answer)) {
                isWrong = true;
                wrong++;
                System.out.println("due is " + due + " at the end of " + calls);
            }
        }
    }

    /** A net whose tokens move on, so that it often has many markings. */
    private static void buildNet(Run run) {
        int places = 1 + draw(8);
        int transitions = 1 + draw(10);
        int labels = 1 + draw(6);
        for (int p = 0; p < places; p++) {
            run.call("addPlace");
            if (p == 0 || chance(30)) {
                run.call("setTokens", p, 1 + draw(3), 0);
            }
        }
        for (int t = 0; t < transitions; t++) {
            run.call("addTransition", draw(labels + 1) - 1);
            run.call("link", t, t < places ? t : draw(places), 1, 1);
            if (chance(20)) {
                run.call("link", t, draw(places), 1, 1);
            }
            if (chance(90)) {
                run.call("link", t, draw(places), 0, 1);
            }
            if (chance(20)) {
                run.call("link", t, draw(places), 0, 1);
            }
            if (chance(30)) {
                run.call("setCost", t, chance(40) ? 0 : draw(10));
            }
        }
    }

    private static void chooseLast(Run run) {
        run.call("markings");
        int size = run.plain.markings.size();
        if (size > 200) {
            return;
        }
        String last = run.plain.markings.get(chance(30) ? size - 1 : draw(size));
        for (int p = 0; p < last.length(); p++) {
            run.call("setTokens", p, last.charAt(p) - '0', 1);
        }
    }

    private static void storeTraces(Run run) {
        int labels = 1 + draw(6);
        for (int i = draw(6); i >= 0; i--) {
            for (int n = draw(9); n > 0; n--) {
                run.call("event", draw(labels));
            }
            run.call("store", chance(25) ? 0 : 1 + draw(9));
        }
        if (chance(40)) {
            run.call("setLabelCost", draw(6), chance(40) ? 0 : draw(10));
        }
    }

    private static void askAll(Run run) {
        for (int i = 0; i < run.plain.traces.size(); i++) {
            run.call("cost", i);
            run.call("moves", i);
            run.call("worst", i);
            run.call("fitness", i);
            // A call beyond the 512th is free, so most moves of a long alignment are passed over.
            for (int m = draw(3); m < 40 && run.calls.size() < 350; m += 1 + draw(6)) {
                for (int what = 0; what < 4; what++) {
                    run.call("move", i, m, what);
                }
            }
        }
        for (int k = 0; k < 3; k++) {
            run.call("total", k, draw(6));
        }
        run.call("allFitness");
        run.call("precision");
        run.call("digest");
        run.call("dead");
        run.call("live");
        run.call("away", draw(3));
    }

    private static Run run(int number) {
        Run run = new Run();
        boolean isBuilt = number % 3 != 0;
        if (isBuilt) {
            buildNet(run);
            chooseLast(run);
            storeTraces(run);
            askAll(run);
        }
        for (int call = 0; call < CALLS && run.calls.size() < 512; call++) {
            String name = drawName(isBuilt ? 40 + call : call);
            run.call(name, drawArguments(run.plain, name));
        }
        return run;
    }

    public static void main(String[] args) {
        for (int i = 0; i < RUNS && wrong < 3; i++) {
            run(i);
        }
        System.out.println(wrong == 0 ? "FuzzTest: all answers are as due" : "FuzzTest: " + wrong + " runs are wrong");
        if (wrong != 0) System.exit(1);
    }
}
