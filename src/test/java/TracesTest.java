/** Promises 16 to 21: traces and costs. */
public final class TracesTest {
    private static final String INDEX = "IndexOutOfBoundsException";
    private static final String ARGUMENT = "IllegalArgumentException";
    private static final String STATE = "IllegalStateException";

    private static int wrong = 0;

    private interface Call {
        Object answer();
    }

    /** The due answer is a value, or the name of the exception that is due. */
    private static void due(String what, Object want, Call call) {
        Object got;
        try {
            got = call.answer();
        } catch (RuntimeException e) {
            got = e.getClass().getSimpleName();
        }
        if (!want.equals(got)) {
            wrong++;
            System.out.println(what + " answered " + got + ", due is " + want);
        }
    }

    private static void testEvent() {
        TraceAligner x = new TraceAligner();
        for (int i = 0; i < 8; i++) {
            int label = i % 6;
            due("event " + i, i + 1, () -> x.event(label));
        }
        long before = x.digest();
        due("ninth event", STATE, () -> x.event(0));
        due("ninth event, wrong label", ARGUMENT, () -> x.event(6));
        due("ninth event, label -1", ARGUMENT, () -> x.event(-1));
        due("digest after that", before, () -> x.digest());
        due("store", 0, () -> x.store(1));
        due("length", 8, () -> x.length(0));
        due("event in the empty buffer", 1, () -> x.event(5));
    }

    private static void testWrongEvents() {
        TraceAligner x = new TraceAligner();
        for (int bad : new int[] {-1, 6, Integer.MIN_VALUE, Integer.MAX_VALUE}) {
            due("event(" + bad + ")", ARGUMENT, () -> x.event(bad));
        }
        due("event after wrong ones", 1, () -> x.event(0));
    }

    private static void testStore() {
        TraceAligner x = new TraceAligner();
        for (int i = 0; i < 8; i++) {
            for (int n = 0; n < i; n++) {
                x.event(n % 6);
            }
            int times = i == 0 ? 0 : 99 - i + 1;
            due("store " + i, i, () -> x.store(times));
            due("traces after it", i + 1, () -> x.count(2));
        }
        for (int i = 0; i < 8; i++) {
            int trace = i;
            due("length(" + i + ")", i, () -> x.length(trace));
        }
        x.event(3);
        long before = x.digest();
        due("ninth trace", STATE, () -> x.store(0));
        due("ninth trace, too often", ARGUMENT, () -> x.store(100));
        due("ninth trace, times -1", ARGUMENT, () -> x.store(-1));
        due("digest after that", before, () -> x.digest());
        due("the buffer is kept", 2, () -> x.event(3));
    }

    private static void testWrongTimes() {
        TraceAligner x = new TraceAligner();
        x.event(2);
        for (int bad : new int[] {-1, 100, Integer.MIN_VALUE, Integer.MAX_VALUE}) {
            due("store(" + bad + ")", ARGUMENT, () -> x.store(bad));
        }
        due("traces after wrong times", 0, () -> x.count(2));
        due("store(99)", 0, () -> x.store(99));
        due("its length", 1, () -> x.length(0));
        due("store(0)", 1, () -> x.store(0));
        due("its length", 0, () -> x.length(1));
    }

    private static void testDropTrace() {
        TraceAligner x = new TraceAligner();
        due("dropTrace of none", STATE, () -> x.dropTrace());
        x.event(1);
        x.store(1);
        x.event(2);
        x.event(3);
        x.store(2);
        x.event(4);
        due("dropTrace", 1, () -> x.dropTrace());
        due("traces after it", 1, () -> x.count(2));
        due("the other is left", 1, () -> x.length(0));
        due("the dropped one is gone", INDEX, () -> x.length(1));
        due("the buffer is left", 2, () -> x.event(4));
        due("store in its place", 1, () -> x.store(1));
        due("the length of that", 2, () -> x.length(1));
        due("dropTrace", 1, () -> x.dropTrace());
        due("dropTrace", 0, () -> x.dropTrace());
        due("dropTrace of none again", STATE, () -> x.dropTrace());
        due("traces at the end", 0, () -> x.count(2));
    }

    private static void testDropMakesRoom() {
        TraceAligner x = new TraceAligner();
        for (int i = 0; i < 8; i++) {
            x.store(1);
        }
        due("dropTrace of 8", 7, () -> x.dropTrace());
        x.event(5);
        due("store again", 7, () -> x.store(3));
        due("its length", 1, () -> x.length(7));
    }

    private static void testLength() {
        TraceAligner x = new TraceAligner();
        due("length of none", INDEX, () -> x.length(0));
        x.event(1);
        x.event(1);
        due("a buffer is no trace", INDEX, () -> x.length(0));
        x.store(1);
        due("length", 2, () -> x.length(0));
        for (int bad : new int[] {-1, 1, 8, Integer.MIN_VALUE, Integer.MAX_VALUE}) {
            due("length(" + bad + ")", INDEX, () -> x.length(bad));
        }
    }

    private static void testSetLabelCost() {
        TraceAligner x = new TraceAligner();
        for (int i = 0; i < 6; i++) {
            int label = i;
            due("label cost at first", 1, () -> x.setLabelCost(label, label + 4));
            due("label cost then", label + 4, () -> x.setLabelCost(label, 0));
            due("label cost 0", 0, () -> x.setLabelCost(label, label));
        }
        due("each label has its own", 3, () -> x.setLabelCost(3, 3));
        long before = x.digest();
        for (int bad : new int[] {-1, 10, Integer.MIN_VALUE, Integer.MAX_VALUE}) {
            due("setLabelCost(0, " + bad + ")", ARGUMENT, () -> x.setLabelCost(0, bad));
        }
        for (int bad : new int[] {-1, 6, Integer.MIN_VALUE, Integer.MAX_VALUE}) {
            due("setLabelCost(" + bad + ", 1)", INDEX, () -> x.setLabelCost(bad, 1));
            due("setLabelCost(" + bad + ", 10)", INDEX, () -> x.setLabelCost(bad, 10));
        }
        due("digest after wrong costs", before, () -> x.digest());
        due("setLabelCost(5, 9)", 5, () -> x.setLabelCost(5, 9));
    }

    private static void testSetCost() {
        TraceAligner x = new TraceAligner();
        due("setCost of none", INDEX, () -> x.setCost(0, 1));
        x.addTransition(0);
        x.addTransition(-1);
        x.addTransition(5);
        due("cost with a label", 1, () -> x.setCost(0, 9));
        due("cost when silent", 0, () -> x.setCost(1, 7));
        due("cost with a label", 1, () -> x.setCost(2, 0));
        due("cost then", 9, () -> x.setCost(0, 2));
        due("cost then, silent", 7, () -> x.setCost(1, 0));
        due("cost then, 0", 0, () -> x.setCost(2, 1));
        long before = x.digest();
        for (int bad : new int[] {-1, 10, Integer.MIN_VALUE, Integer.MAX_VALUE}) {
            due("setCost(0, " + bad + ")", ARGUMENT, () -> x.setCost(0, bad));
        }
        for (int bad : new int[] {-1, 3, 10, Integer.MIN_VALUE, Integer.MAX_VALUE}) {
            due("setCost(" + bad + ", 1)", INDEX, () -> x.setCost(bad, 1));
            due("setCost(" + bad + ", -1)", INDEX, () -> x.setCost(bad, -1));
        }
        due("digest after wrong costs", before, () -> x.digest());
        due("label costs are others", 1, () -> x.setLabelCost(0, 1));
    }

    public static void main(String[] args) {
        testEvent();
        testWrongEvents();
        testStore();
        testWrongTimes();
        testDropTrace();
        testDropMakesRoom();
        testLength();
        testSetLabelCost();
        testSetCost();
        System.out.println("TracesTest: " + wrong + " answers are not as due");
        if (wrong != 0) System.exit(1);
    }
}
