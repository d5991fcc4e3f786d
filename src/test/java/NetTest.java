/** Promises 1 to 7: a new object, and how a net is built. */
public final class NetTest {
    private static final String INDEX = "IndexOutOfBoundsException";
    private static final String ARGUMENT = "IllegalArgumentException";
    private static final String STATE = "IllegalStateException";

    private static int wrong = 0;

    private interface Call {
        Object answer();
    }

    /** The due answer is a value, or the name of the exception that is due. */
    private static void due(String what, Object want, Call call) {
        Object got;
        try {
            got = call.answer();
        } catch (RuntimeException e) {
            got = e.getClass().getSimpleName();
        }
        if (!want.equals(got)) {
            wrong++;
            System.out.println(what + " answered " + got + ", due is " + want);
        }
    }

    private static TraceAligner net(int places, int transitions) {
        TraceAligner x = new TraceAligner();
        for (int i = 0; i < places; i++) {
            x.addPlace();
        }
        for (int i = 0; i < transitions; i++) {
            x.addTransition(i % 6);
        }
        return x;
    }

    private static void testNewObject() {
        TraceAligner x = new TraceAligner();
        due("new: places", 0, () -> x.count(0));
        due("new: transitions", 0, () -> x.count(1));
        due("new: traces", 0, () -> x.count(2));
        due("new: markings", 1, () -> x.markings());
        due("new: last", 0, () -> x.last());
        due("new: enabled", 0, () -> x.enabled(0));
        due("new: dropTrace", STATE, () -> x.dropTrace());
        due("new: label cost", 1, () -> x.setLabelCost(5, 1));
        due("new: first label of the buffer", 1, () -> x.event(0));
    }

    private static void testObjectsAreApart() {
        TraceAligner x = net(2, 2);
        TraceAligner y = new TraceAligner();
        x.event(1);
        x.store(1);
        due("another object: places", 0, () -> y.count(0));
        due("another object: transitions", 0, () -> y.count(1));
        due("another object: traces", 0, () -> y.count(2));
    }

    private static void testAddPlace() {
        TraceAligner x = new TraceAligner();
        for (int i = 0; i < 8; i++) {
            int number = i;
            due("addPlace " + i, i, () -> x.addPlace());
            due("places after it", i + 1, () -> x.count(0));
            due("its first tokens", 0, () -> x.setTokens(number, 1, false));
            due("its last tokens", 0, () -> x.setTokens(number, 2, true));
        }
        long before = x.digest();
        due("ninth place", STATE, () -> x.addPlace());
        due("ninth place again", STATE, () -> x.addPlace());
        due("places after that", 8, () -> x.count(0));
        due("digest after that", before, () -> x.digest());
    }

    private static void testAddTransition() {
        TraceAligner x = net(1, 0);
        for (int i = 0; i < 10; i++) {
            int number = i;
            int label = i % 7 - 1;
            due("addTransition " + i, i, () -> x.addTransition(label));
            due("transitions after it", i + 1, () -> x.count(1));
            due("its label", label, () -> x.label(number));
            due("its input place", false, () -> x.link(number, 0, true, false));
            due("its output place", false, () -> x.link(number, 0, false, false));
            due("its cost", label == -1 ? 0 : 1, () -> x.setCost(number, 1));
        }
        long before = x.digest();
        due("11th transition", STATE, () -> x.addTransition(0));
        due("11th transition, silent", STATE, () -> x.addTransition(-1));
        due("11th transition, wrong label", ARGUMENT, () -> x.addTransition(6));
        due("11th transition, wrong label -2", ARGUMENT, () -> x.addTransition(-2));
        due("transitions after that", 10, () -> x.count(1));
        due("digest after that", before, () -> x.digest());
    }

    private static void testWrongLabels() {
        TraceAligner x = new TraceAligner();
        for (int label : new int[] {-2, 6, 7, Integer.MIN_VALUE, Integer.MAX_VALUE}) {
            due("addTransition(" + label + ")", ARGUMENT, () -> x.addTransition(label));
        }
        due("transitions after wrong labels", 0, () -> x.count(1));
        due("addTransition(5)", 0, () -> x.addTransition(5));
        due("addTransition(-1)", 1, () -> x.addTransition(-1));
    }

    private static void testLink() {
        TraceAligner x = net(8, 10);
        for (boolean isInput : new boolean[] {true, false}) {
            due("link on " + isInput, false, () -> x.link(9, 7, isInput, true));
            due("link on again " + isInput, true, () -> x.link(9, 7, isInput, true));
            due("link off " + isInput, true, () -> x.link(9, 7, isInput, false));
            due("link off again " + isInput, false, () -> x.link(9, 7, isInput, false));
        }
        due("link input", false, () -> x.link(0, 0, true, true));
        due("the same place as output", false, () -> x.link(0, 0, false, true));
        due("another place", false, () -> x.link(0, 1, true, true));
        due("another transition", false, () -> x.link(1, 0, true, true));
        due("input off", true, () -> x.link(0, 0, true, false));
        due("output is still there", true, () -> x.link(0, 0, false, true));
        due("other place is still there", true, () -> x.link(0, 1, true, true));
        due("other transition is still there", true, () -> x.link(1, 0, true, true));
    }

    private static void testWrongLinks() {
        TraceAligner x = net(2, 3);
        long before = x.digest();
        for (int bad : new int[] {-1, 3, 10, Integer.MIN_VALUE, Integer.MAX_VALUE}) {
            due("link(" + bad + ", 0)", INDEX, () -> x.link(bad, 0, true, true));
        }
        for (int bad : new int[] {-1, 2, 8, 32, Integer.MIN_VALUE, Integer.MAX_VALUE}) {
            due("link(0, " + bad + ")", INDEX, () -> x.link(0, bad, false, true));
        }
        due("link of nothing at all", INDEX, () -> new TraceAligner().link(0, 0, true, true));
        due("digest after wrong links", before, () -> x.digest());
    }

    private static void testSetTokens() {
        TraceAligner x = net(8, 0);
        for (int place = 0; place < 8; place += 7) {
            int p = place;
            due("first 0 -> 3", 0, () -> x.setTokens(p, 3, false));
            due("first 3 -> 1", 3, () -> x.setTokens(p, 1, false));
            due("last 0 -> 2", 0, () -> x.setTokens(p, 2, true));
            due("first 1 -> 1", 1, () -> x.setTokens(p, 1, false));
            due("last 2 -> 0", 2, () -> x.setTokens(p, 0, true));
            due("last 0 -> 0", 0, () -> x.setTokens(p, 0, true));
        }
        due("a place between", 0, () -> x.setTokens(3, 0, false));
    }

    private static void testWrongTokens() {
        TraceAligner x = net(2, 0);
        x.setTokens(1, 2, false);
        long before = x.digest();
        for (int bad : new int[] {-1, 4, Integer.MIN_VALUE, Integer.MAX_VALUE}) {
            due("setTokens(1, " + bad + ", false)", ARGUMENT, () -> x.setTokens(1, bad, false));
            due("setTokens(1, " + bad + ", true)", ARGUMENT, () -> x.setTokens(1, bad, true));
        }
        for (int bad : new int[] {-1, 2, 8, Integer.MIN_VALUE, Integer.MAX_VALUE}) {
            due("setTokens(" + bad + ", 1, false)", INDEX, () -> x.setTokens(bad, 1, false));
            due("setTokens(" + bad + ", 4, true)", INDEX, () -> x.setTokens(bad, 4, true));
        }
        due("digest after wrong tokens", before, () -> x.digest());
    }

    private static void testCount() {
        TraceAligner x = net(3, 5);
        x.event(0);
        x.store(1);
        x.store(1);
        due("count(0)", 3, () -> x.count(0));
        due("count(1)", 5, () -> x.count(1));
        due("count(2)", 2, () -> x.count(2));
        for (int bad : new int[] {-1, 3, Integer.MIN_VALUE, Integer.MAX_VALUE}) {
            due("count(" + bad + ")", INDEX, () -> x.count(bad));
        }
    }

    private static void testLabel() {
        TraceAligner x = new TraceAligner();
        due("label of none", INDEX, () -> x.label(0));
        x.addTransition(4);
        x.addTransition(-1);
        x.addTransition(0);
        due("label(0)", 4, () -> x.label(0));
        due("label(1)", -1, () -> x.label(1));
        due("label(2)", 0, () -> x.label(2));
        for (int bad : new int[] {-1, 3, 9, 10, Integer.MIN_VALUE, Integer.MAX_VALUE}) {
            due("label(" + bad + ")", INDEX, () -> x.label(bad));
        }
    }

    public static void main(String[] args) {
        testNewObject();
        testObjectsAreApart();
        testAddPlace();
        testAddTransition();
        testWrongLabels();
        testLink();
        testWrongLinks();
        testSetTokens();
        testWrongTokens();
        testCount();
        testLabel();
        System.out.println("NetTest: " + wrong + " answers are not as due");
        if (wrong != 0) System.exit(1);
    }
}
