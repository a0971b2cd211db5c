import java.util.HashSet;
import java.util.Set;

/** Every call with every argument from far below to far above: each is refused as the document says, or answered. */
final class WildArgumentsTest {
    private static final int[] WILD = {Integer.MIN_VALUE, Integer.MIN_VALUE + 1, -32, -1, 0, 1, 2, 3, 4, 5, 6, 7, 8, 11, 12,
        20, 21, 23, 24, 31, 32, 100, 101, 1 << 24, Integer.MAX_VALUE};
    /** How many arguments the calls have that change a gate, as Run numbers them. */
    private static final int[] ARGUMENTS = {3, 2, 0, 1, 3, 2, 1, 1, 1};

    private final String name;
    private final StoryToll gate;
    private final Set<Integer> pairs;
    private int refused = 0;

    private WildArgumentsTest(String name, StoryToll gate, Set<Integer> pairs) {
        this.name = name;
        this.gate = gate;
        this.pairs = pairs;
    }

    /** Makes the call if it is one to be refused; the others would change the gate. */
    private void change(int... call) {
        Class<? extends RuntimeException> due = Rules.refusal(gate, pairs, call);
        if (due != null) {
            refused++;
            Check.refused(name + ": " + Run.nameOf(call), gate, due, () -> Run.made(gate, call));
        }
    }

    private void changes() {
        for (int kind = 0; kind < ARGUMENTS.length; kind++) {
            if (ARGUMENTS[kind] == 0) {
                change(kind);
            } else if (ARGUMENTS[kind] == 1) {
                for (int a : WILD) {
                    change(kind, a);
                }
            } else {
                changesOfMany(kind);
            }
        }
    }

    private void changesOfMany(int kind) {
        for (int a : WILD) {
            for (int b : WILD) {
                if (ARGUMENTS[kind] == 2) {
                    change(kind, a, b);
                } else {
                    for (int c : WILD) {
                        change(kind, a, b, c);
                    }
                }
            }
        }
    }

    /** The call is refused if one of its arguments is not below what there is, and answered otherwise. */
    private void question(String call, boolean there, Check.Call question) {
        if (there) {
            question.go();
        } else {
            refused++;
            Check.noIndex(name + ": " + call, gate, question);
        }
    }

    private static boolean below(int number, int howMany) {
        return number >= 0 && number < howMany;
    }

    private void questions() {
        for (int a : WILD) {
            question("count " + a, below(a, 11), () -> gate.count(a));
            question("most " + a, below(a, gate.count(8)), () -> gate.most(a));
            question("sleeps " + a, below(a, gate.count(3)), () -> gate.sleeps(a));
            for (int b : WILD) {
                questions(a, b);
            }
        }
    }

    private void questions(int a, int b) {
        String arguments = " " + a + " " + b;
        question("scene" + arguments, below(a, gate.count(1)) && below(b, 5), () -> gate.scene(a, b));
        question("guard" + arguments, below(a, gate.count(3)) && below(b, 3), () -> gate.guard(a, b));
        question("traveller" + arguments, below(a, gate.count(5)) && below(b, 5), () -> gate.traveller(a, b));
        question("plot" + arguments, below(a, gate.count(8)) && below(b, 4), () -> gate.plot(a, b));
        question("told" + arguments, below(a, gate.count(8)) && below(b, gate.plot(a, 0)), () -> gate.told(a, b));
        question("worth" + arguments, below(a, gate.count(3)) && below(b, gate.count(1)), () -> gate.worth(a, b));
        question("best" + arguments, below(a, gate.count(5)) && below(b, gate.count(8)), () -> gate.best(a, b));
    }

    private void go() {
        long before = Gates.printOf(gate);
        changes();
        questions();
        Check.due(name + ": nothing is changed", before, Gates.printOf(gate));
        Check.due(name + ": calls are refused", true, refused > 1000);
    }

    private static StoryToll busy() {
        StoryToll gate = Gates.story(2, 5);
        for (int scene : new int[] {0, 2, 3, 2, 3, 2, 3, 2}) {
            gate.tell(0, scene, 0);
        }
        gate.tell(1, 1, 0);
        gate.reserve(0, 1);
        gate.tell(1, 1, 0);
        gate.tell(1, 6, 2);
        gate.pass(0);
        gate.send(2);
        return gate;
    }

    private static StoryToll fullAndAsleep() {
        StoryToll gate = Gates.full();
        gate.reserve(2, 1);
        gate.tell(2, 22, 2);
        Check.due("all asleep", 0, gate.watch(27));
        gate.pass(3);
        gate.send(4);
        return gate;
    }

    public static void main(String[] args) {
        new WildArgumentsTest("new", new StoryToll(), new HashSet<>()).go();
        new WildArgumentsTest("busy", busy(), Gates.booksOfStory()).go();
        new WildArgumentsTest("full", Gates.full(), Gates.booksOfFull()).go();
        new WildArgumentsTest("full and asleep", fullAndAsleep(), Gates.booksOfFull()).go();
        Check.end();
    }
}
