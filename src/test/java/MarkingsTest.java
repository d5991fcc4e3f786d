/** Promises 8 to 15: the markings of the net. */
public final class MarkingsTest {
    private static final String INDEX = "IndexOutOfBoundsException";
    private static final String STATE = "IllegalStateException";

    private static int wrong = 0;

    private interface Call {
        Object answer();
    }

    /** The due answer is a value, or the name of the exception that is due. */
    private static void due(String what, Object want, Call call) {
        Object got;
        try {
            got = call.answer();
        } catch (RuntimeException e) {
            got = e.getClass().getSimpleName();
        }
        if (!want.equals(got)) {
            wrong++;
            System.out.println(what + " answered " + got + ", due is " + want);
        }
    }

    /** A net from the tokens of its first marking, and the sets of input and output places of its transitions. */
    private static TraceAligner net(int[] first, int[] inputs, int[] outputs) {
        TraceAligner x = new TraceAligner();
        for (int p = 0; p < first.length; p++) {
            x.addPlace();
            x.setTokens(p, first[p], false);
        }
        for (int t = 0; t < inputs.length; t++) {
            x.addTransition(t % 6);
            for (int p = 0; p < first.length; p++) {
                x.link(t, p, true, (inputs[t] >> p & 1) == 1);
                x.link(t, p, false, (outputs[t] >> p & 1) == 1);
            }
        }
        return x;
    }

    /** From place 0 to 1 and 2; from 1 to 3; from 2 to 4; from 3 and 4 to 5. */
    private static TraceAligner fork() {
        TraceAligner x = net(new int[] {1, 0, 0, 0, 0, 0}, new int[] {1, 2, 4, 24}, new int[] {6, 8, 16, 32});
        x.setTokens(5, 1, true);
        return x;
    }

    private static TraceAligner tooBig() {
        return net(new int[] {0, 0, 0, 0}, new int[] {0, 0, 0, 0}, new int[] {1, 2, 4, 8});
    }

    private static void testFork() {
        TraceAligner x = fork();
        int[][] tokens = {
            {1, 0, 0, 0, 0, 0}, {0, 1, 1, 0, 0, 0}, {0, 0, 1, 1, 0, 0},
            {0, 1, 0, 0, 1, 0}, {0, 0, 0, 1, 1, 0}, {0, 0, 0, 0, 0, 1}
        };
        int[][] next = {
            {1, -1, -1, -1}, {-1, 2, 3, -1}, {-1, -1, 4, -1}, {-1, 4, -1, -1}, {-1, -1, -1, 5}, {-1, -1, -1, -1}
        };
        int[] enabled = {1, 6, 4, 2, 8, 0};
        int[] away = {4, 3, 2, 2, 1, 0};
        due("fork: markings", 6, () -> x.markings());
        for (int i = 0; i < 6; i++) {
            int m = i;
            for (int j = 0; j < 6; j++) {
                int p = j;
                due("fork: tokens(" + m + ", " + p + ")", tokens[m][p], () -> x.tokens(m, p));
            }
            for (int j = 0; j < 4; j++) {
                int t = j;
                due("fork: next(" + m + ", " + t + ")", next[m][t], () -> x.next(m, t));
            }
            due("fork: enabled(" + m + ")", enabled[m], () -> x.enabled(m));
            due("fork: away(" + m + ")", away[m], () -> x.away(m));
        }
        due("fork: last", 5, () -> x.last());
        due("fork: dead", 0, () -> x.dead());
        due("fork: live", 15, () -> x.live());
    }

    private static void testWrongIndices() {
        TraceAligner x = fork();
        for (int bad : new int[] {-1, 6, 199, 200, Integer.MIN_VALUE, Integer.MAX_VALUE}) {
            due("tokens(" + bad + ", 0)", INDEX, () -> x.tokens(bad, 0));
            due("tokens(0, " + bad + ")", INDEX, () -> x.tokens(0, bad));
            due("enabled(" + bad + ")", INDEX, () -> x.enabled(bad));
            due("next(" + bad + ", 0)", INDEX, () -> x.next(bad, 0));
            due("away(" + bad + ")", INDEX, () -> x.away(bad));
        }
        for (int bad : new int[] {-1, 4, 10, Integer.MIN_VALUE, Integer.MAX_VALUE}) {
            due("next(0, " + bad + ")", INDEX, () -> x.next(0, bad));
        }
    }

    private static void testLastInTheMiddle() {
        TraceAligner x = fork();
        x.setTokens(5, 0, true);
        x.setTokens(1, 1, true);
        x.setTokens(4, 1, true);
        int[] away = {2, 1, -1, 0, -1, -1};
        due("middle: last", 3, () -> x.last());
        due("middle: dead", 1, () -> x.dead());
        for (int i = 0; i < 6; i++) {
            int m = i;
            due("middle: away(" + m + ")", away[m], () -> x.away(m));
        }
    }

    private static void testLastThatCannotCome() {
        TraceAligner x = fork();
        x.setTokens(5, 2, true);
        due("cannot come: last", -1, () -> x.last());
        due("cannot come: dead", 1, () -> x.dead());
        due("cannot come: live", 15, () -> x.live());
        for (int i = 0; i < 6; i++) {
            int m = i;
            due("cannot come: away(" + m + ")", -1, () -> x.away(m));
        }
    }

    private static void testAwayTakesTheShortestWay() {
        TraceAligner x = net(new int[] {1, 0, 0}, new int[] {1, 2, 1}, new int[] {2, 4, 4});
        x.setTokens(2, 1, true);
        x.setCost(2, 9);
        x.setCost(0, 0);
        x.setCost(1, 0);
        due("away does not look at costs", 1, () -> x.away(0));
        due("away of the other", 1, () -> x.away(1));
    }

    private static void testAwayBackwards() {
        TraceAligner x = net(new int[] {3, 0}, new int[] {1, 2}, new int[] {2, 1});
        x.setTokens(0, 3, true);
        due("ring: markings", 4, () -> x.markings());
        due("ring: last", 0, () -> x.last());
        due("ring: away(0)", 0, () -> x.away(0));
        due("ring: away(1)", 1, () -> x.away(1));
        due("ring: away(3)", 3, () -> x.away(3));
    }

    private static void testAtMostThreeTokens() {
        TraceAligner x = net(new int[] {0}, new int[] {0, 1, 1}, new int[] {1, 1, 0});
        due("three tokens: markings", 4, () -> x.markings());
        due("three tokens: tokens(3, 0)", 3, () -> x.tokens(3, 0));
        due("three tokens: enabled(0)", 1, () -> x.enabled(0));
        due("three tokens: enabled(1)", 7, () -> x.enabled(1));
        due("three tokens: enabled(3)", 6, () -> x.enabled(3));
        due("three tokens: next(3, 0)", -1, () -> x.next(3, 0));
        due("three tokens: a place that is both", 3, () -> x.next(3, 1));
        due("three tokens: next(3, 2)", 2, () -> x.next(3, 2));
        due("three tokens: next(0, 1)", -1, () -> x.next(0, 1));
        due("three tokens: dead", 0, () -> x.dead());
    }

    private static void testEveryInputPlaceCounts() {
        TraceAligner x = net(new int[] {1, 0, 0}, new int[] {3}, new int[] {4});
        due("one of two inputs: markings", 1, () -> x.markings());
        due("one of two inputs: enabled", 0, () -> x.enabled(0));
        due("one of two inputs: live", 0, () -> x.live());
        due("one of two inputs: last", -1, () -> x.last());
        due("one of two inputs: dead", 1, () -> x.dead());
        x.setTokens(1, 2, false);
        due("both inputs: markings", 2, () -> x.markings());
        due("both inputs: tokens(1, 0)", 0, () -> x.tokens(1, 0));
        due("both inputs: tokens(1, 1)", 1, () -> x.tokens(1, 1));
        due("both inputs: tokens(1, 2)", 1, () -> x.tokens(1, 2));
        x.setTokens(2, 3, false);
        due("full output: markings", 1, () -> x.markings());
    }

    private static void testNothingAtAll() {
        TraceAligner x = new TraceAligner();
        due("no net: markings", 1, () -> x.markings());
        due("no net: tokens(0, 0)", INDEX, () -> x.tokens(0, 0));
        due("no net: next(0, 0)", INDEX, () -> x.next(0, 0));
        due("no net: enabled(1)", INDEX, () -> x.enabled(1));
        due("no net: dead", 0, () -> x.dead());
        due("no net: live", 0, () -> x.live());
        due("no net: away(0)", 0, () -> x.away(0));
        x.addTransition(0);
        due("bare transition: next", 0, () -> x.next(0, 0));
        due("bare transition: enabled", 1, () -> x.enabled(0));
        due("bare transition: live", 1, () -> x.live());
    }

    private static void testDead() {
        TraceAligner x = net(new int[] {1, 0, 0}, new int[] {1, 1}, new int[] {2, 4});
        due("dead without the last", 2, () -> x.dead());
        x.setTokens(1, 1, true);
        due("dead with the last one left out", 1, () -> x.dead());
        x.setTokens(1, 0, true);
        x.setTokens(0, 1, true);
        due("dead with a last one that lives", 2, () -> x.dead());
    }

    private static void testLimitOfMarkings() {
        TraceAligner most = net(new int[] {2, 3, 3, 3, 1}, new int[] {8, 16, 6, 1}, new int[] {17, 0, 0, 0});
        due("200 markings", 200, () -> most.markings());
        due("200 markings: live", 15, () -> most.live());
        due("200 markings: the last number", "found", () -> most.enabled(199) >= 0 ? "found" : "lost");
        due("200 markings: one more", INDEX, () -> most.enabled(200));
        TraceAligner more = net(new int[] {3, 3, 3, 1}, new int[] {8, 1, 6, 4}, new int[] {0, 12, 8, 0});
        due("201 markings", -1, () -> more.markings());
        due("201 markings: live", STATE, () -> more.live());
    }

    private static void testTooMany() {
        TraceAligner x = tooBig();
        due("too many: markings", -1, () -> x.markings());
        due("too many: markings again", -1, () -> x.markings());
        for (int m : new int[] {0, -1, 500}) {
            due("too many: tokens(" + m + ", 0)", STATE, () -> x.tokens(m, 0));
            due("too many: tokens(0, " + m + ")", STATE, () -> x.tokens(0, m));
            due("too many: enabled(" + m + ")", STATE, () -> x.enabled(m));
            due("too many: next(" + m + ", 0)", STATE, () -> x.next(m, 0));
            due("too many: next(0, " + m + ")", STATE, () -> x.next(0, m));
            due("too many: away(" + m + ")", STATE, () -> x.away(m));
        }
        due("too many: last", STATE, () -> x.last());
        due("too many: dead", STATE, () -> x.dead());
        due("too many: live", STATE, () -> x.live());
        x.link(3, 3, false, false);
        due("fewer again: markings", 64, () -> x.markings());
        due("fewer again: last", 0, () -> x.last());
        due("fewer again: live", 15, () -> x.live());
    }

    private static void testChangesAreSeen() {
        TraceAligner x = net(new int[] {1, 0}, new int[] {1}, new int[] {2});
        due("before: markings", 2, () -> x.markings());
        due("before: last", -1, () -> x.last());
        x.setTokens(1, 1, true);
        due("last set: last", 1, () -> x.last());
        x.setTokens(0, 2, false);
        due("first set: markings", 3, () -> x.markings());
        due("first set: last", -1, () -> x.last());
        x.addTransition(0);
        due("transition added: enabled", 3, () -> x.enabled(0));
        x.addPlace();
        due("place added: tokens", 0, () -> x.tokens(0, 2));
        x.link(1, 2, false, true);
        due("link on: markings", 12, () -> x.markings());
        x.link(1, 2, false, false);
        due("link off: markings", 3, () -> x.markings());
        due("link off: enabled", 3, () -> x.enabled(0));
        x.link(1, 2, true, true);
        due("input on: enabled", 1, () -> x.enabled(0));
        due("input on: next", -1, () -> x.next(0, 1));
        due("input on: live", 1, () -> x.live());
    }

    private static void testAtAllLimits() {
        TraceAligner x = net(new int[] {3, 0, 0, 0, 0, 0, 0, 0},
                new int[] {1, 2, 4, 8, 16, 32, 64, 1, 128, 0}, new int[] {2, 4, 8, 16, 32, 64, 128, 2, 128, 0});
        x.setTokens(7, 3, true);
        due("8 places, 10 transitions: markings", 120, () -> x.markings());
        due("8 places, 10 transitions: last", 119, () -> x.last());
        due("8 places, 10 transitions: live", 1023, () -> x.live());
        due("8 places, 10 transitions: enabled(0)", 1 + 128 + 512, () -> x.enabled(0));
        due("8 places, 10 transitions: enabled(119)", 256 + 512, () -> x.enabled(119));
        due("8 places, 10 transitions: next(119, 9)", 119, () -> x.next(119, 9));
        due("8 places, 10 transitions: tokens(119, 7)", 3, () -> x.tokens(119, 7));
        due("8 places, 10 transitions: away(0)", 21, () -> x.away(0));
    }

    public static void main(String[] args) {
        testFork();
        testWrongIndices();
        testLastInTheMiddle();
        testLastThatCannotCome();
        testAwayTakesTheShortestWay();
        testAwayBackwards();
        testAtMostThreeTokens();
        testEveryInputPlaceCounts();
        testNothingAtAll();
        testDead();
        testLimitOfMarkings();
        testTooMany();
        testChangesAreSeen();
        testAtAllLimits();
        System.out.println("MarkingsTest: " + wrong + " answers are not as due");
        if (wrong != 0) System.exit(1);
    }
}
