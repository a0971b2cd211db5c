import java.util.HashSet;
import java.util.Random;
import java.util.Set;

/**
 * Seeded runs of calls: what would be is compared with what is, once the run is played again and the thing done;
 * and what is there with books that the test keeps.
 */
final class RandomRunsTest {
    private static final int TELL = 4;
    private static final int WATCH = 8;

    private final Random random;
    private final StoryToll gate = new StoryToll();
    private final Run run = new Run();
    private final Set<Integer> pairs = new HashSet<>();
    private final int[][] heard = new int[4][24];
    private int lastHue = -1;
    private long tolls = 0;
    private int told = 0;

    private RandomRunsTest(long seed) {
        random = new Random(seed);
    }

    /** A number of one of those that there are, seldom of none. */
    private int number(int howMany) {
        return random.nextInt(12) == 0 ? random.nextInt(40) - 4 : random.nextInt(Math.max(1, howMany));
    }

    private int[] randomCall(boolean prepared) {
        int kind = prepared && random.nextInt(4) > 0 ? TELL : random.nextInt(9);
        switch (kind) {
            case 0: return new int[] {0, random.nextInt(20) == 0 ? 3 : random.nextInt(3), random.nextInt(22), random.nextInt(6)};
            case 1: return new int[] {1, number(gate.count(1)), number(gate.count(1))};
            case 2: return new int[] {2};
            case 3: return new int[] {3, random.nextInt(1 << gate.count(1)) | random.nextInt(1 << gate.count(1))};
            case 4: return new int[] {4, number(gate.count(5)), number(gate.count(1)), number(gate.count(8))};
            case 5: return new int[] {5, number(gate.count(5)), number(gate.count(8))};
            case 6: return new int[] {6, random.nextInt(3) > 0 ? -1 : number(gate.count(5))};
            case 7: return new int[] {7, random.nextInt(4) > 0 ? -1 : number(gate.count(5))};
            default: return new int[] {8, random.nextInt(30) == 0 ? 95 + random.nextInt(10) : random.nextInt(25)};
        }
    }

    private int worthInBooks(int guard, int scene) {
        int share = gate.scene(scene, 1) / (1 + heard[guard][scene]);
        return gate.scene(scene, 2) == lastHue ? share : share + 2;
    }

    private void checkTold(int[] call, int toll, boolean[] awake) {
        int scene = call[2];
        int most = 0;
        for (int guard = 0; guard < awake.length; guard++) {
            if (awake[guard]) {
                most = Math.max(most, worthInBooks(guard, scene));
                heard[guard][scene]++;
            }
        }
        Check.due("toll of " + Run.nameOf(call), most, toll);
        lastHue = gate.scene(scene, 2);
        tolls += toll;
        told++;
        Check.due("all tolls", tolls, gate.count(10));
        Check.dueExactly("mean", (double) tolls / told, gate.mean());
    }

    private void step(boolean prepared) {
        int[] call = randomCall(prepared);
        boolean[] awake = new boolean[gate.count(3)];
        for (int guard = 0; guard < awake.length; guard++) {
            awake[guard] = gate.guard(guard, 0) == 1;
        }
        Class<? extends RuntimeException> due = Rules.refusal(gate, pairs, call);
        long before = due != null ? Gates.printOf(gate) : 0;
        int answer = run.call(gate, call);
        if (run.refusal() != due) {
            Check.wrong(Run.nameOf(call) + " threw " + run.refusal() + ", due is " + due);
        }
        if (answer == Run.REFUSED) {
            Check.due(Run.nameOf(call) + " is refused and changes nothing", before, Gates.printOf(gate));
        } else if (call[0] == 1) {
            pairs.add(call[1] * 24 + call[2]);
            Check.due("pairs", pairs.size(), answer);
        } else if (call[0] == TELL) {
            checkTold(call, answer, awake);
        }
    }

    private void checkWorths() {
        for (int guard = 0; guard < gate.count(3); guard++) {
            for (int scene = 0; scene < gate.count(1); scene++) {
                Check.due("worth " + guard + ", " + scene, worthInBooks(guard, scene), gate.worth(guard, scene));
            }
        }
    }

    private void checkBest() {
        int traveller = random.nextInt(Math.max(1, gate.count(5)));
        int plot = random.nextInt(Math.max(1, gate.count(8)));
        if (gate.count(5) == 0 || gate.count(8) == 0) {
            return;
        }
        int best = -1;
        int most = -1;
        for (int scene = 0; scene < gate.count(1); scene++) {
            int toll = Run.answerOf(run.playedAgain(), TELL, traveller, scene, plot);
            if (toll != Run.REFUSED && toll > most) {
                most = toll;
                best = scene;
            }
        }
        Check.due("best " + traveller + ", " + plot, best, gate.best(traveller, plot));
    }

    private void checkSleeps() {
        for (int guard = 0; guard < gate.count(3); guard++) {
            StoryToll later = run.playedAgain();
            int watches = 0;
            do {
                Run.answerOf(later, WATCH, 1);
                watches++;
            } while (watches < 100 && later.guard(guard, 0) == gate.guard(guard, 0));
            Check.due("sleeps " + guard, watches, gate.sleeps(guard));
        }
    }

    /** All rows of scenes, one by one, that the pairs of the books allow. */
    private int mostInBooks(int last, Set<Integer> used, int length) {
        int most = -1;
        for (int next = 0; next < gate.count(1) && length < 8; next++) {
            if (!used.contains(next) && pairs.contains(last * 24 + next)) {
                int wonder = gate.scene(next, 1);
                if (gate.scene(next, 0) == 2) {
                    most = Math.max(most, wonder);
                } else {
                    used.add(next);
                    int behind = mostInBooks(next, used, length + 1);
                    used.remove(next);
                    most = behind < 0 ? most : Math.max(most, wonder + behind);
                }
            }
        }
        return most;
    }

    private void checkMost() {
        for (int plot = 0; plot < gate.count(8); plot++) {
            Set<Integer> used = new HashSet<>();
            int length = gate.plot(plot, 0);
            for (int place = 0; place < length; place++) {
                used.add(gate.told(plot, place));
            }
            int last = gate.told(plot, length - 1);
            boolean open = gate.scene(last, 0) != 2;
            Check.due("plot " + plot + " is open", open ? 1 : 0, gate.plot(plot, 1));
            Check.due("most " + plot, open ? mostInBooks(last, used, length) : 0, gate.most(plot));
        }
    }

    private void prepare() {
        for (int i = 0; i < 24; i++) {
            run.call(gate, 0, i < 5 ? 0 : i < 18 ? 1 : 2, 1 + random.nextInt(20), random.nextInt(6));
        }
        for (int i = 0; i < 80; i++) {
            int from = random.nextInt(18);
            int to = 5 + random.nextInt(19);
            if (run.call(gate, 1, from, to) != Run.REFUSED) {
                pairs.add(from * 24 + to);
            }
        }
        for (int i = 0; i < 6; i++) {
            run.call(gate, 3, random.nextInt(1 << 24) | random.nextInt(1 << 24));
        }
        run.call(gate, 2);
    }

    private void go(boolean prepared) {
        if (prepared) {
            prepare();
        }
        for (int i = 0; i < 380; i++) {
            step(prepared);
            if (i % 20 == 0) {
                checkWorths();
                checkBest();
                checkSleeps();
                checkMost();
                Check.due("digest", Gates.digestOf(gate), gate.digest());
            }
        }
    }

    public static void main(String[] args) {
        for (long seed = 1; seed <= 150; seed++) {
            new RandomRunsTest(seed).go(seed % 3 != 0);
        }
        Check.end();
    }
}
