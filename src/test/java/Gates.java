import java.util.HashSet;
import java.util.Set;

/** Gates for tests. */
final class Gates {
    /** All scenes of story(), as a set. */
    static final int ALL = 0b1111111;

    private static final int[][] PAIRS_OF_STORY = {{0, 2}, {2, 3}, {3, 2}, {2, 4}, {3, 5}, {4, 6}, {1, 6}};

    private Gates() {
    }

    /**
     * Scenes: 0 and 1 beginnings, 2 to 4 middles, 5 and 6 endings; pairs: 0-2, 2-3, 3-2, 2-4, 3-5, 4-6, 1-6.
     * No guard and no traveller.
     */
    static StoryToll story() {
        StoryToll gate = new StoryToll();
        gate.make(0, 12, 1);
        gate.make(0, 5, 2);
        gate.make(1, 9, 1);
        gate.make(1, 16, 3);
        gate.make(1, 4, 0);
        gate.make(2, 20, 4);
        gate.make(2, 7, 1);
        tellPairs(gate, PAIRS_OF_STORY);
        return gate;
    }

    /** story() with guards, and travellers who know all scenes. */
    static StoryToll story(int guards, int travellers) {
        StoryToll gate = story();
        for (int i = 0; i < guards; i++) {
            gate.post();
        }
        for (int i = 0; i < travellers; i++) {
            gate.come(ALL);
        }
        return gate;
    }

    /**
     * A gate with all that there can be: 24 scenes (0 to 3 beginnings, 4 to 19 middles, 20 to 23 endings), 60 pairs,
     * 4 guards, 12 travellers who know all scenes, and 8 plots, the plot p begun by the traveller p with the scene p % 4.
     */
    static StoryToll full() {
        StoryToll gate = new StoryToll();
        for (int i = 0; i < 24; i++) {
            gate.make(i < 4 ? 0 : i < 20 ? 1 : 2, 1 + i * 7 % 20, i % 6);
        }
        tellPairs(gate, pairsOfFull());
        for (int i = 0; i < 4; i++) {
            gate.post();
        }
        for (int i = 0; i < 12; i++) {
            gate.come((1 << 24) - 1);
        }
        for (int plot = 0; plot < 8; plot++) {
            gate.tell(plot, plot % 4, 0);
        }
        return gate;
    }

    static Set<Integer> booksOfStory() {
        return booksOf(PAIRS_OF_STORY);
    }

    static Set<Integer> booksOfFull() {
        return booksOf(pairsOfFull());
    }

    private static int[][] pairsOfFull() {
        int[][] pairs = new int[60][];
        for (int i = 0; i < 16; i++) {
            pairs[i] = new int[] {4 + i, 4 + (i + 1) % 16};
            pairs[16 + i] = new int[] {4 + i, 4 + (i + 3) % 16};
            pairs[32 + i] = new int[] {4 + i, 20 + i % 4};
        }
        for (int i = 0; i < 4; i++) {
            pairs[48 + i] = new int[] {i, 4 + i};
            pairs[52 + i] = new int[] {i, 12 + i};
            pairs[56 + i] = new int[] {i, 20 + i};
        }
        return pairs;
    }

    private static void tellPairs(StoryToll gate, int[][] pairs) {
        for (int[] pair : pairs) {
            gate.follow(pair[0], pair[1]);
        }
    }

    /** The pairs as Rules wants them. */
    private static Set<Integer> booksOf(int[][] pairs) {
        Set<Integer> books = new HashSet<>();
        for (int[] pair : pairs) {
            books.add(pair[0] * 24 + pair[1]);
        }
        return books;
    }

    /** A gate with one guard who is awake with this patience, 1 to 20. Nothing else. */
    static StoryToll guardWithPatience(int patience) {
        StoryToll gate = new StoryToll();
        gate.post();
        if (patience < 20) {
            gate.watch(20 - patience);
        }
        return gate;
    }

    /** The digest that promise 22 asks for, of what the gate answers. */
    static long digestOf(StoryToll gate) {
        long d = 839;
        for (int what = 0; what <= 10; what++) {
            d = d * 31 + gate.count(what);
        }
        for (int i = 0; i < gate.count(1); i++) {
            for (int what = 0; what <= 4; what++) {
                d = d * 31 + gate.scene(i, what);
            }
        }
        for (int i = 0; i < gate.count(3); i++) {
            for (int what = 0; what <= 2; what++) {
                d = d * 31 + gate.guard(i, what);
            }
        }
        for (int i = 0; i < gate.count(5); i++) {
            for (int what = 0; what <= 4; what++) {
                d = d * 31 + gate.traveller(i, what);
            }
        }
        for (int i = 0; i < gate.count(8); i++) {
            for (int what = 0; what <= 3; what++) {
                d = d * 31 + gate.plot(i, what);
            }
            for (int place = 0; place < gate.plot(i, 0); place++) {
                d = d * 31 + gate.told(i, place);
            }
        }
        return d;
    }

    /** A number made of all that the gate answers, of what would be too, as the digest does not hold all that it knows. */
    static long printOf(StoryToll gate) {
        long print = gate.digest();
        for (int guard = 0; guard < gate.count(3); guard++) {
            print = print * 31 + gate.sleeps(guard);
            for (int scene = 0; scene < gate.count(1); scene++) {
                print = print * 31 + gate.worth(guard, scene);
            }
        }
        for (int plot = 0; plot < gate.count(8); plot++) {
            print = print * 31 + gate.most(plot);
            for (int traveller = 0; traveller < gate.count(5); traveller++) {
                print = print * 31 + gate.best(traveller, plot);
            }
        }
        return print * 31 + Double.doubleToLongBits(gate.mean());
    }
}
