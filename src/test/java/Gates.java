/** Gates for tests. */
final class Gates {
    /** All scenes of story(), as a set. */
    static final int ALL = 0b1111111;

    private Gates() {
    }

    /**
     * Scenes: 0 and 1 beginnings, 2 to 4 middles, 5 and 6 endings; pairs: 0-2, 2-3, 3-2, 2-4, 3-5, 4-6, 1-6.
     * No guard and no traveller.
     */
    static StoryToll story() {
        StoryToll gate = new StoryToll();
        gate.make(0, 12, 1);
        gate.make(0, 5, 2);
        gate.make(1, 9, 1);
        gate.make(1, 16, 3);
        gate.make(1, 4, 0);
        gate.make(2, 20, 4);
        gate.make(2, 7, 1);
        int[][] pairs = {{0, 2}, {2, 3}, {3, 2}, {2, 4}, {3, 5}, {4, 6}, {1, 6}};
        for (int[] pair : pairs) {
            gate.follow(pair[0], pair[1]);
        }
        return gate;
    }

    /** story() with guards, and travellers who know all scenes. */
    static StoryToll story(int guards, int travellers) {
        StoryToll gate = story();
        for (int i = 0; i < guards; i++) {
            gate.post();
        }
        for (int i = 0; i < travellers; i++) {
            gate.come(ALL);
        }
        return gate;
    }

    /** The digest that promise 22 asks for, of what the gate answers. */
    static long digestOf(StoryToll gate) {
        long d = 839;
        for (int what = 0; what <= 10; what++) {
            d = d * 31 + gate.count(what);
        }
        for (int i = 0; i < gate.count(1); i++) {
            for (int what = 0; what <= 4; what++) {
                d = d * 31 + gate.scene(i, what);
            }
        }
        for (int i = 0; i < gate.count(3); i++) {
            for (int what = 0; what <= 2; what++) {
                d = d * 31 + gate.guard(i, what);
            }
        }
        for (int i = 0; i < gate.count(5); i++) {
            for (int what = 0; what <= 4; what++) {
                d = d * 31 + gate.traveller(i, what);
            }
        }
        for (int i = 0; i < gate.count(8); i++) {
            for (int what = 0; what <= 3; what++) {
                d = d * 31 + gate.plot(i, what);
            }
            for (int place = 0; place < gate.plot(i, 0); place++) {
                d = d * 31 + gate.told(i, place);
            }
        }
        return d;
    }
}
