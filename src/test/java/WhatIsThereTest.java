/** Promises 11 to 16. */
final class WhatIsThereTest {
    private static final int[] NO_NUMBERS = {-1, 100, Integer.MIN_VALUE, Integer.MAX_VALUE};

    private WhatIsThereTest() {
    }

    /** Two guards, three travellers; plots: 0, 2, 3, 2 and 1, 6 (reserved by 1, closed) and 0. */
    private static StoryToll busyGate() {
        StoryToll gate = Gates.story(2, 2);
        gate.come(0b0000101);
        gate.tell(0, 0, 0);
        gate.tell(2, 2, 0);
        gate.tell(1, 3, 0);
        gate.tell(0, 2, 0);
        gate.tell(1, 1, 0);
        gate.reserve(1, 1);
        gate.tell(1, 6, 1);
        gate.tell(2, 0, 0);
        return gate;
    }

    private static void promise11Scene() {
        StoryToll gate = busyGate();
        int[][] want = {{0, 12, 1, 1, 2}, {0, 5, 2, 1, 1}, {1, 9, 1, 2, 2}, {1, 16, 3, 2, 1}, {1, 4, 0, 1, 0},
            {2, 20, 4, 0, 0}, {2, 7, 1, 0, 1}};
        for (int scene = 0; scene < want.length; scene++) {
            for (int what = 0; what <= 4; what++) {
                Check.due("11: scene " + scene + ", " + what, want[scene][what], gate.scene(scene, what));
            }
        }
        for (int no : NO_NUMBERS) {
            Check.noIndex("11: scene " + no, gate, () -> gate.scene(no, 0));
            Check.noIndex("11: what " + no, gate, () -> gate.scene(0, no));
        }
        Check.noIndex("11: scene 7", gate, () -> gate.scene(7, 0));
        Check.noIndex("11: what 5", gate, () -> gate.scene(6, 5));
    }

    private static void promise12Guard() {
        StoryToll gate = busyGate();
        gate.watch(4);
        gate.post();
        int[][] want = {{1, 26, 7}, {1, 26, 7}, {1, 20, 0}};
        for (int guard = 0; guard < want.length; guard++) {
            for (int what = 0; what <= 2; what++) {
                Check.due("12: guard " + guard + ", " + what, want[guard][what], gate.guard(guard, what));
            }
        }
        gate.watch(20);
        Check.due("12: asleep", 0, gate.guard(2, 0));
        Check.due("12: awake", 1, gate.guard(1, 0));
        for (int no : NO_NUMBERS) {
            Check.noIndex("12: guard " + no, gate, () -> gate.guard(no, 0));
            Check.noIndex("12: what " + no, gate, () -> gate.guard(0, no));
        }
        Check.noIndex("12: guard 3", gate, () -> gate.guard(3, 0));
        Check.noIndex("12: what 3", gate, () -> gate.guard(2, 3));
    }

    private static void promise13Traveller() {
        StoryToll gate = busyGate();
        int[][] want = {{127, 20, 0, 2, 0}, {127, 29, 0, 3, 1}, {5, 15, 0, 2, 0}};
        for (int traveller = 0; traveller < want.length; traveller++) {
            for (int what = 0; what <= 4; what++) {
                Check.due("13: traveller " + traveller + ", " + what, want[traveller][what],
                        gate.traveller(traveller, what));
            }
        }
        gate.pass(2);
        gate.send(0);
        Check.due("13: sent away", 2, gate.traveller(0, 2));
        Check.due("13: on the way", 0, gate.traveller(1, 2));
        Check.due("13: passed", 1, gate.traveller(2, 2));
        for (int no : NO_NUMBERS) {
            Check.noIndex("13: traveller " + no, gate, () -> gate.traveller(no, 0));
            Check.noIndex("13: what " + no, gate, () -> gate.traveller(0, no));
        }
        Check.noIndex("13: traveller 3", gate, () -> gate.traveller(3, 0));
        Check.noIndex("13: what 5", gate, () -> gate.traveller(2, 5));
    }

    private static void promise14Plot() {
        StoryToll gate = busyGate();
        int[][] want = {{4, 1, -1, 46}, {2, 0, 1, 12}, {1, 1, -1, 12}};
        for (int plot = 0; plot < want.length; plot++) {
            for (int what = 0; what <= 3; what++) {
                Check.due("14: plot " + plot + ", " + what, want[plot][what], gate.plot(plot, what));
            }
        }
        for (int no : NO_NUMBERS) {
            Check.noIndex("14: plot " + no, gate, () -> gate.plot(no, 0));
            Check.noIndex("14: what " + no, gate, () -> gate.plot(0, no));
        }
        Check.noIndex("14: plot 3", gate, () -> gate.plot(3, 0));
        Check.noIndex("14: what 4", gate, () -> gate.plot(2, 4));
    }

    private static void promise15Told() {
        StoryToll gate = busyGate();
        int[][] want = {{0, 2, 3, 2}, {1, 6}, {0}};
        for (int plot = 0; plot < want.length; plot++) {
            int scenes = want[plot].length;
            for (int place = 0; place < scenes; place++) {
                Check.due("15: told " + plot + ", " + place, want[plot][place], gate.told(plot, place));
            }
            int row = plot;
            Check.noIndex("15: behind the last", gate, () -> gate.told(row, scenes));
            Check.noIndex("15: place -1", gate, () -> gate.told(row, -1));
            Check.noIndex("15: place 8", gate, () -> gate.told(row, 8));
        }
        for (int no : NO_NUMBERS) {
            Check.noIndex("15: plot " + no, gate, () -> gate.told(no, 0));
            Check.noIndex("15: place " + no, gate, () -> gate.told(0, no));
        }
        Check.noIndex("15: plot 3", gate, () -> gate.told(3, 0));
    }

    private static void promise15EightPlaces() {
        StoryToll gate = Gates.story(1, 1);
        int[] row = {0, 2, 3, 2, 3, 2, 3, 5};
        for (int scene : row) {
            gate.tell(0, scene, 0);
        }
        for (int place = 0; place < 8; place++) {
            Check.due("15: place " + place, row[place], gate.told(0, place));
        }
        Check.noIndex("15: place 8", gate, () -> gate.told(0, 8));
    }

    private static void promise16Count() {
        StoryToll gate = busyGate();
        gate.watch(30);
        gate.post();
        gate.come(0);
        gate.send(3);
        gate.come(1);
        gate.pass(0);
        int[] want = {30, 7, 7, 3, 1, 5, 3, 1, 3, 2, 69};
        for (int what = 0; what <= 10; what++) {
            Check.due("16: count " + what, want[what], gate.count(what));
        }
        gate.tell(1, 1, 0);
        Check.due("16: one plot more", 4, gate.count(8));
        Check.due("16: one open plot more", 3, gate.count(9));
        for (int no : NO_NUMBERS) {
            Check.noIndex("16: count " + no, gate, () -> gate.count(no));
        }
        Check.noIndex("16: count 11", gate, () -> gate.count(11));
    }

    public static void main(String[] args) {
        promise11Scene();
        promise12Guard();
        promise13Traveller();
        promise14Plot();
        promise15Told();
        promise15EightPlaces();
        promise16Count();
        Check.end();
    }
}
