import java.io.IOException;
import java.lang.reflect.Method;
import java.lang.reflect.Modifier;
import java.nio.file.Files;
import java.nio.file.Path;
import java.util.ArrayList;
import java.util.List;

/** The example in README.md answers what is written there, and README.md names each method. */
public final class ReadmeTest {
    private static final Path README = Path.of("README.md");

    private static int wrong = 0;
    private static final List<String> CALLED = new ArrayList<>();

    private static void complain(String text) {
        wrong++;
        System.out.println(text);
    }

    /** A line of the example, as far as its answer, and the answer that the class gives. */
    private static void due(String line, Object want, Object got) {
        CALLED.add(line);
        if (!want.equals(got)) {
            complain(line + " answered " + got + ", due is " + want);
        }
    }

    private static void callExample() {
        TraceAligner x = new TraceAligner();
        CALLED.add("TraceAligner x = new TraceAligner();");
        int begun = x.addPlace();
        int made = x.addPlace();
        int gone = x.addPlace();
        due("int begun = x.addPlace();", 0, begun);
        due("int made = x.addPlace();", 1, made);
        due("int gone = x.addPlace();", 2, gone);
        int make = x.addTransition(0);
        int send = x.addTransition(1);
        int keep = x.addTransition(-1);
        due("int make = x.addTransition(0); // a transition with label 0", 0, make);
        due("int send = x.addTransition(1);", 1, send);
        due("int keep = x.addTransition(-1); // a silent one", 2, keep);
        due("x.link(make, begun, true, true); // begun is an input place of make from now on,", false,
                x.link(make, begun, true, true));
        due("x.link(make, made, false, true); // and made an output place", false,
                x.link(make, made, false, true));
        due("x.link(send, made, true, true);", false, x.link(send, made, true, true));
        due("x.link(send, gone, false, true);", false, x.link(send, gone, false, true));
        due("x.link(keep, made, true, true);", false, x.link(keep, made, true, true));
        due("x.link(keep, gone, false, true);", false, x.link(keep, gone, false, true));
        due("x.setTokens(begun, 1, false); // the first marking", 0, x.setTokens(begun, 1, false));
        due("x.setTokens(gone, 1, true); // the last marking", 0, x.setTokens(gone, 1, true));

        due("x.markings(); // 3", 3, x.markings());
        due("x.enabled(1); // 6: send (2 to the power 1) and keep (2 to the power 2)", 6, x.enabled(1));
        due("x.away(0); // 2 transitions to the last marking", 2, x.away(0));
        callTraces(x, keep);
    }

    private static void callTraces(TraceAligner x, int keep) {
        due("x.event(0);", 1, x.event(0));
        due("x.event(1);", 2, x.event(1));
        int good = x.store(3);
        due("int good = x.store(3); // labels 0 and 1, seen 3 times", 0, good);
        due("x.event(0);", 1, x.event(0));
        due("x.event(4);", 2, x.event(4));
        int odd = x.store(2);
        due("int odd = x.store(2); // labels 0 and 4, seen 2 times", 1, odd);

        due("x.cost(good); // 0", 0, x.cost(good));
        due("x.cost(odd); // 1", 1, x.cost(odd));
        due("x.moves(odd); // 3: BOTH make, TRACE label 4, MODEL keep", 3, x.moves(odd));
        due("x.move(odd, 1, 0); // 1, the kind of its move 1: TRACE", 1, x.move(odd, 1, 0));
        due("x.move(odd, 1, 2); // 4, the label that this move passes", 4, x.move(odd, 1, 2));
        due("x.worst(odd); // 3", 3, x.worst(odd));
        due("x.fitness(odd); // 1 - 1 / 3", 1.0 - 1.0 / 3.0, x.fitness(odd));
        due("x.total(2, keep); // 2: MODEL with keep, once in a trace seen 2 times", 2, x.total(2, keep));
        due("x.allFitness(); // 1 - 2 / 15", 1.0 - 2.0 / 15.0, x.allFitness());
        due("x.precision(); // 1: all that the net allows was done", 1.0, x.precision());
        due("x.dropTrace(); // 1 trace is left,", 1, x.dropTrace());
        due("x.precision(); // 2 / 3: and in that one, keep was not done", 2.0 / 3.0, x.precision());
    }

    /** The lines of the example, without the room that puts their comments in a column. */
    private static List<String> exampleLines() throws IOException {
        List<String> lines = new ArrayList<>();
        boolean isExample = false;
        for (String line : Files.readAllLines(README)) {
            if (line.startsWith("```")) {
                isExample = line.equals("```java");
            } else if (isExample && !line.isEmpty()) {
                lines.add(line.replaceAll(" +//", " //"));
            }
        }
        return lines;
    }

    private static void compareLines() throws IOException {
        List<String> written = exampleLines();
        for (int i = 0; i < Math.max(written.size(), CALLED.size()); i++) {
            String line = i < written.size() ? written.get(i) : "nothing";
            String called = i < CALLED.size() ? CALLED.get(i) : "nothing";
            if (!line.equals(called)) {
                complain("README.md says " + line + ", and called was " + called);
            }
        }
    }

    private static void lookForMethods() throws IOException {
        String text = Files.readString(README);
        for (Method method : TraceAligner.class.getDeclaredMethods()) {
            if (Modifier.isPublic(method.getModifiers()) && !text.contains("`" + method.getName() + "`")) {
                complain("README.md does not name " + method.getName());
            }
        }
    }

    public static void main(String[] args) throws IOException {
        callExample();
        compareLines();
        lookForMethods();
        System.out.println("ReadmeTest: " + wrong + " lines are not as due");
        if (wrong != 0) System.exit(1);
    }
}
