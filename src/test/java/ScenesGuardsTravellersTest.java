/** Promises 1 to 5. */
final class ScenesGuardsTravellersTest {
    private ScenesGuardsTravellersTest() {
    }

    private static void promise1NewObject() {
        StoryToll gate = new StoryToll();
        for (int what = 0; what <= 10; what++) {
            Check.due("1: count(" + what + ") of a new gate", 0, gate.count(what));
        }
        Check.noIndex("1: a guard of a new gate", gate, () -> gate.guard(0, 0));
        Check.noIndex("1: a scene of a new gate", gate, () -> gate.scene(0, 0));
        Check.noIndex("1: a traveller of a new gate", gate, () -> gate.traveller(0, 0));
        Check.noIndex("1: a plot of a new gate", gate, () -> gate.plot(0, 0));
        new StoryToll().make(0, 1, 0);
        Check.due("1: gates share nothing", 0, gate.count(1));
    }

    private static void promise2Make() {
        StoryToll gate = new StoryToll();
        int[][] wrong = {{-1, 1, 0}, {3, 1, 0}, {0, 0, 0}, {0, 21, 0}, {0, 1, -1}, {0, 1, 6}, {0, -5, 0},
            {Integer.MIN_VALUE, 1, 0}, {0, Integer.MAX_VALUE, 0}, {0, 1, Integer.MIN_VALUE}};
        for (int[] w : wrong) {
            Check.noArgument("2: make of " + w[0] + " " + w[1] + " " + w[2], gate, () -> gate.make(w[0], w[1], w[2]));
        }
        Check.due("2: first", 0, gate.make(0, 1, 0));
        Check.due("2: second", 1, gate.make(2, 20, 5));
        Check.due("2: third", 2, gate.make(1, 7, 3));
        int[][] want = {{0, 1, 0, 0, 0}, {2, 20, 5, 0, 0}, {1, 7, 3, 0, 0}};
        for (int scene = 0; scene < want.length; scene++) {
            for (int what = 0; what <= 4; what++) {
                Check.due("2: scene " + scene + ", " + what, want[scene][what], gate.scene(scene, what));
            }
        }
        for (int number = 3; number < 24; number++) {
            Check.due("2: number", number, gate.make(number % 3, 2, 1));
        }
        Check.noState("2: a 25th scene", gate, () -> gate.make(0, 1, 0));
        Check.noArgument("2: a wrong 25th scene", gate, () -> gate.make(3, 1, 0));
        Check.due("2: scenes", 24, gate.count(1));
    }

    private static void promise3Follow() {
        StoryToll gate = new StoryToll();
        gate.make(0, 1, 0);
        gate.make(1, 1, 0);
        gate.make(1, 1, 0);
        gate.make(2, 1, 0);
        gate.make(2, 1, 0);
        gate.make(0, 1, 0);
        int[][] noScene = {{-1, 1}, {6, 1}, {0, -1}, {0, 6}, {3, 6}, {6, 0}, {6, 6}, {Integer.MAX_VALUE, 1}};
        for (int[] pair : noScene) {
            Check.noIndex("3: " + pair[0] + " " + pair[1], gate, () -> gate.follow(pair[0], pair[1]));
        }
        int[][] wrong = {{3, 1}, {3, 4}, {1, 0}, {0, 5}, {0, 0}, {1, 1}, {3, 3}};
        for (int[] pair : wrong) {
            Check.noArgument("3: " + pair[0] + " " + pair[1], gate, () -> gate.follow(pair[0], pair[1]));
        }
        Check.due("3: beginning, middle", 1, gate.follow(0, 1));
        Check.due("3: middle, middle", 2, gate.follow(1, 2));
        Check.due("3: the other way", 3, gate.follow(2, 1));
        Check.due("3: middle, ending", 4, gate.follow(2, 3));
        Check.due("3: beginning, ending", 5, gate.follow(0, 4));
        Check.due("3: told already", 5, gate.follow(1, 2));
        Check.due("3: pairs", 5, gate.count(2));
        Check.due("3: behind 0", 2, gate.scene(0, 3));
        Check.due("3: behind 1", 1, gate.scene(1, 3));
        Check.due("3: behind 3", 0, gate.scene(3, 3));
    }

    private static void promise3SixtyPairs() {
        StoryToll gate = new StoryToll();
        for (int i = 0; i < 9; i++) {
            gate.make(1, 1, 0);
        }
        gate.make(2, 1, 0);
        int pairs = 0;
        for (int i = 0; i < 9; i++) {
            for (int j = 0; j < 9 && pairs < 60; j++) {
                if (i != j) {
                    pairs++;
                    Check.due("3: pair " + i + " " + j, pairs, gate.follow(i, j));
                }
            }
        }
        Check.noState("3: a 61st pair", gate, () -> gate.follow(8, 9));
        Check.due("3: told already, with 60", 60, gate.follow(0, 1));
        Check.noArgument("3: a wrong pair, with 60", gate, () -> gate.follow(9, 1));
        Check.noIndex("3: no scene, with 60", gate, () -> gate.follow(8, 10));
        Check.due("3: pairs", 60, gate.count(2));
    }

    private static void promise4Post() {
        StoryToll gate = new StoryToll();
        for (int number = 0; number < 4; number++) {
            Check.due("4: number", number, gate.post());
            Check.due("4: awake", 1, gate.guard(number, 0));
            Check.due("4: patience", 20, gate.guard(number, 1));
            Check.due("4: heard", 0, gate.guard(number, 2));
        }
        Check.noState("4: a 5th guard", gate, () -> gate.post());
        Check.due("4: guards", 4, gate.count(3));
    }

    private static void promise5Come() {
        StoryToll gate = new StoryToll();
        Check.noArgument("5: a scene that there is not", gate, () -> gate.come(1));
        Check.due("5: who knows nothing", 0, gate.come(0));
        gate.make(0, 1, 0);
        gate.make(0, 1, 0);
        int[] wrong = {-1, 4, 5, 7, 1 << 24, 1 << 30, Integer.MIN_VALUE, Integer.MAX_VALUE};
        for (int scenes : wrong) {
            Check.noArgument("5: " + scenes, gate, () -> gate.come(scenes));
        }
        Check.due("5: who knows all", 1, gate.come(3));
        int[] want = {3, 0, 0, 0, 0};
        for (int what = 0; what <= 4; what++) {
            Check.due("5: what " + what, want[what], gate.traveller(1, what));
        }
        for (int number = 2; number < 12; number++) {
            Check.due("5: number", number, gate.come(2));
        }
        Check.noState("5: a 13th", gate, () -> gate.come(0));
        Check.noArgument("5: a wrong 13th", gate, () -> gate.come(4));
        Check.due("5: travellers", 12, gate.count(5));
    }

    private static void promise5AllScenes() {
        StoryToll gate = new StoryToll();
        for (int i = 0; i < 24; i++) {
            gate.make(0, 1, 0);
        }
        int all = (1 << 24) - 1;
        Check.due("5: who knows all 24", 0, gate.come(all));
        Check.due("5: the set", all, gate.traveller(0, 0));
        Check.noArgument("5: the scene 24", gate, () -> gate.come(1 << 24));
    }

    public static void main(String[] args) {
        promise1NewObject();
        promise2Make();
        promise3Follow();
        promise3SixtyPairs();
        promise4Post();
        promise5Come();
        promise5AllScenes();
        Check.end();
    }
}
