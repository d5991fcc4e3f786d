/** Promise 30: the checksum. */
public final class DigestTest {
    private static int wrong = 0;

    private static void due(String what, long got, long want) {
        if (got != want) {
            wrong++;
            System.out.println(what + " answered " + got + ", due is " + want);
        }
    }

    private static long fold(int... numbers) {
        long d = 181;
        for (int x : numbers) {
            d = d * 31 + x;
        }
        return d;
    }

    private static void testNewObject() {
        TraceAligner x = new TraceAligner();
        due("new", x.digest(), fold(0, 0, 1, 1, 1, 1, 1, 1, 0, 0, 1));
        due("new, again", x.digest(), fold(0, 0, 1, 1, 1, 1, 1, 1, 0, 0, 1));
        x.event(4);
        due("a label in the buffer", x.digest(), fold(0, 0, 1, 1, 1, 1, 1, 1, 1, 0, 1));
        x.event(2);
        due("two labels in the buffer", x.digest(), fold(0, 0, 1, 1, 1, 1, 1, 1, 2, 0, 1));
        x.store(99);
        due("a trace", x.digest(), fold(0, 0, 1, 1, 1, 1, 1, 1, 0, 1, 99, 2, 4, 2, 1, 2));
        x.store(0);
        due("an empty trace", x.digest(), fold(0, 0, 1, 1, 1, 1, 1, 1, 0, 2, 99, 2, 4, 2, 0, 0, 1, 2, 0));
        x.dropTrace();
        x.dropTrace();
        due("traces dropped", x.digest(), fold(0, 0, 1, 1, 1, 1, 1, 1, 0, 0, 1));
    }

    private static void testNet() {
        TraceAligner x = new TraceAligner();
        x.addPlace();
        x.addPlace();
        due("places", x.digest(), fold(2, 0, 0, 0, 0, 0, 1, 1, 1, 1, 1, 1, 0, 0, 1));
        x.addTransition(5);
        x.addTransition(-1);
        x.link(0, 0, true, true);
        x.link(0, 1, false, true);
        x.link(1, 1, true, true);
        x.link(1, 0, true, true);
        x.setTokens(0, 1, false);
        x.setTokens(1, 3, true);
        x.setTokens(0, 2, true);
        due("net", x.digest(), fold(2, 2, 5, 1, 1, 2, -1, 0, 3, 0, 1, 0, 2, 3, 1, 1, 1, 1, 1, 1, 0, 0, 2));
        x.event(5);
        x.store(3);
        due("no alignment", x.digest(),
                fold(2, 2, 5, 1, 1, 2, -1, 0, 3, 0, 1, 0, 2, 3, 1, 1, 1, 1, 1, 1, 0, 1, 3, 1, 5, 2, -1));
        x.setTokens(0, 0, true);
        x.setTokens(1, 1, true);
        x.store(1);
        due("alignments", x.digest(),
                fold(2, 2, 5, 1, 1, 2, -1, 0, 3, 0, 1, 0, 0, 1, 1, 1, 1, 1, 1, 1, 0, 2, 3, 1, 5, 1, 0, 2, 0, 1));
        x.setCost(0, 7);
        x.setLabelCost(0, 9);
        x.setLabelCost(5, 2);
        due("costs", x.digest(),
                fold(2, 2, 5, 7, 1, 2, -1, 0, 3, 0, 1, 0, 0, 1, 9, 1, 1, 1, 1, 2, 0, 2, 3, 1, 5, 1, 0, 2, 0, 7));
    }

    private static void testTooMany() {
        TraceAligner x = new TraceAligner();
        for (int i = 0; i < 4; i++) {
            x.addPlace();
            x.addTransition(i);
            x.link(i, i, false, true);
        }
        x.event(0);
        x.store(2);
        due("too many", x.digest(), fold(4, 4, 0, 1, 0, 1, 1, 1, 0, 2, 2, 1, 0, 4, 3, 1, 0, 8,
                0, 0, 0, 0, 0, 0, 0, 0, 1, 1, 1, 1, 1, 1, 0, 1, 2, 1, 0, -1));
        x.link(3, 3, false, false);
        due("fewer again", x.digest(), fold(4, 4, 0, 1, 0, 1, 1, 1, 0, 2, 2, 1, 0, 4, 3, 1, 0, 0,
                0, 0, 0, 0, 0, 0, 0, 0, 1, 1, 1, 1, 1, 1, 0, 1, 2, 1, 0, 64, 1));
    }

    public static void main(String[] args) {
        testNewObject();
        testNet();
        testTooMany();
        System.out.println("DigestTest: " + wrong + " answers are not as due");
        if (wrong != 0) System.exit(1);
    }
}
