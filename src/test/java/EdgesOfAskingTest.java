/** The boundary cases of promises 11 to 16: a test for each. */
final class EdgesOfAskingTest {
    private static final int[] FAR = {Integer.MIN_VALUE, -1, Integer.MAX_VALUE};

    private EdgesOfAskingTest() {
    }

    private static void promise11NoScene() {
        StoryToll gate = Gates.full();
        for (int what = 0; what <= 4; what++) {
            int asked = what;
            for (int far : FAR) {
                Check.noIndex("11: scene " + far, gate, () -> gate.scene(far, asked));
            }
            Check.noIndex("11: scene 24", gate, () -> gate.scene(24, asked));
        }
        Check.due("11: scene 23", 5, gate.scene(23, 2));
    }

    private static void promise11What() {
        StoryToll gate = Gates.full();
        for (int far : FAR) {
            Check.noIndex("11: what " + far, gate, () -> gate.scene(0, far));
        }
        Check.noIndex("11: what 5", gate, () -> gate.scene(0, 5));
        Check.due("11: what 0", 2, gate.scene(23, 0));
        Check.due("11: what 4", 2, gate.scene(0, 4));
    }

    private static void promise11Followers() {
        StoryToll gate = new StoryToll();
        gate.make(0, 1, 0);
        Check.due("11: none", 0, gate.scene(0, 3));
        for (int behind = 1; behind < 24; behind++) {
            gate.make(1 + behind % 2, 1, 0);
            gate.follow(0, behind);
        }
        Check.due("11: all others", 23, gate.scene(0, 3));
        Check.due("11: none behind it", 0, gate.scene(23, 3));
    }

    private static void promise12NoGuard() {
        StoryToll gate = Gates.full();
        for (int what = 0; what <= 2; what++) {
            int asked = what;
            for (int far : FAR) {
                Check.noIndex("12: guard " + far, gate, () -> gate.guard(far, asked));
            }
            Check.noIndex("12: guard 4", gate, () -> gate.guard(4, asked));
        }
        Check.due("12: guard 3", 8, gate.guard(3, 2));
    }

    private static void promise12What() {
        StoryToll gate = Gates.full();
        for (int far : FAR) {
            Check.noIndex("12: what " + far, gate, () -> gate.guard(0, far));
        }
        Check.noIndex("12: what 3", gate, () -> gate.guard(0, 3));
    }

    private static void promise12EachTimeCounted() {
        StoryToll gate = Gates.story(1, 1);
        gate.tell(0, 0, 0);
        gate.tell(0, 0, 0);
        gate.tell(0, 1, 0);
        Check.due("12: heard, each time counted", 3, gate.guard(0, 2));
    }

    private static void promise13NoTraveller() {
        StoryToll gate = Gates.full();
        for (int what = 0; what <= 4; what++) {
            int asked = what;
            for (int far : FAR) {
                Check.noIndex("13: traveller " + far, gate, () -> gate.traveller(far, asked));
            }
            Check.noIndex("13: traveller 12", gate, () -> gate.traveller(12, asked));
        }
        Check.due("13: traveller 11", (1 << 24) - 1, gate.traveller(11, 0));
    }

    private static void promise13What() {
        StoryToll gate = Gates.full();
        for (int far : FAR) {
            Check.noIndex("13: what " + far, gate, () -> gate.traveller(0, far));
        }
        Check.noIndex("13: what 5", gate, () -> gate.traveller(0, 5));
    }

    private static void promise13EndingsOncePassed() {
        StoryToll gate = Gates.story(1, 1);
        gate.tell(0, 0, 0);
        gate.tell(0, 2, 0);
        gate.reserve(0, 0);
        Check.due("13: 14 and 9 less 5", 18, gate.traveller(0, 1));
        gate.pass(0);
        Check.due("13: endings of one who passed", 1, gate.traveller(0, 4));
    }

    private static void promise13EndingsOnceTold() {
        StoryToll gate = Gates.story(1, 1);
        gate.tell(0, 1, 0);
        gate.reserve(0, 0);
        gate.tell(0, 6, 0);
        Check.due("13: endings that are told", 1, gate.traveller(0, 4));
    }

    private static void promise13EightEndings() {
        StoryToll gate = Gates.story(4, 1);
        for (int plot = 0; plot < 8; plot++) {
            gate.tell(0, 0, 0);
            gate.tell(0, 2, plot);
            gate.tell(0, 3, plot);
        }
        for (int plot = 0; plot < 8; plot++) {
            gate.reserve(0, plot);
        }
        Check.due("13: endings of all plots", 8, gate.traveller(0, 4));
        gate.send(0);
        Check.due("13: endings of one sent away", 0, gate.traveller(0, 4));
    }

    private static void promise14NoPlot() {
        StoryToll gate = Gates.full();
        for (int what = 0; what <= 3; what++) {
            int asked = what;
            for (int far : FAR) {
                Check.noIndex("14: plot " + far, gate, () -> gate.plot(far, asked));
            }
            Check.noIndex("14: plot 8", gate, () -> gate.plot(8, asked));
        }
        Check.due("14: plot 7", 1, gate.plot(7, 0));
        StoryToll empty = Gates.story(1, 1);
        Check.noIndex("14: no plot at all", empty, () -> empty.plot(0, 0));
    }

    private static void promise14What() {
        StoryToll gate = Gates.full();
        for (int far : FAR) {
            Check.noIndex("14: what " + far, gate, () -> gate.plot(0, far));
        }
        Check.noIndex("14: what 4", gate, () -> gate.plot(0, 4));
    }

    private static void promise14ReservedByNobody() {
        StoryToll gate = Gates.story(1, 1);
        gate.tell(0, 1, 0);
        Check.due("14: nobody", -1, gate.plot(0, 2));
        gate.tell(0, 6, 0);
        Check.due("14: nobody, once it is told", -1, gate.plot(0, 2));
    }

    private static void promise14ReservedOnceTold() {
        StoryToll gate = Gates.story(1, 2);
        gate.tell(1, 1, 0);
        gate.reserve(1, 0);
        gate.tell(1, 6, 0);
        Check.due("14: not open", 0, gate.plot(0, 1));
        Check.due("14: who reserved it, once it is told", 1, gate.plot(0, 2));
        gate.tell(1, 0, 0);
        gate.pass(1);
        Check.due("14: who reserved it, once passed", 1, gate.plot(0, 2));
    }

    private static void promise14WonderOfScenesTwice() {
        StoryToll gate = Gates.story(1, 1);
        int[] row = {0, 2, 3, 2, 3, 2, 3, 5};
        int[] wonder = {12, 21, 37, 46, 62, 71, 87, 107};
        for (int i = 0; i < row.length; i++) {
            gate.tell(0, row[i], 0);
            Check.due("14: scenes", i + 1, gate.plot(0, 0));
            Check.due("14: wonder of " + (i + 1), wonder[i], gate.plot(0, 3));
        }
    }

    private static void promise15NoPlot() {
        StoryToll gate = Gates.full();
        for (int far : FAR) {
            Check.noIndex("15: plot " + far, gate, () -> gate.told(far, 0));
        }
        Check.noIndex("15: plot 8", gate, () -> gate.told(8, 0));
        Check.due("15: plot 7", 3, gate.told(7, 0));
        StoryToll empty = Gates.story(1, 1);
        Check.noIndex("15: no plot at all", empty, () -> empty.told(0, 0));
    }

    private static void promise15NoPlace() {
        StoryToll gate = Gates.story(1, 1);
        int[] row = {0, 2, 3, 2, 3, 2, 3, 2};
        for (int i = 0; i < row.length; i++) {
            gate.tell(0, row[i], 0);
            int behind = i + 1;
            Check.due("15: the last of " + behind, row[i], gate.told(0, i));
            Check.noIndex("15: behind the last of " + behind, gate, () -> gate.told(0, behind));
        }
        for (int far : FAR) {
            Check.noIndex("15: place " + far, gate, () -> gate.told(0, far));
        }
    }

    private static void promise16What() {
        StoryToll gate = Gates.full();
        for (int far : FAR) {
            Check.noIndex("16: what " + far, gate, () -> gate.count(far));
        }
        Check.noIndex("16: what 11", gate, () -> gate.count(11));
    }

    private static void promise16Full() {
        StoryToll gate = Gates.full();
        int[] want = {0, 24, 60, 4, 4, 12, 12, 0, 8, 8};
        for (int what = 0; what < want.length; what++) {
            Check.due("16: count " + what, want[what], gate.count(what));
        }
    }

    private static void promise16NoneLeft() {
        StoryToll gate = Gates.full();
        for (int plot = 0; plot < 8; plot++) {
            gate.tell(0, 20 + plot % 4, plot);
        }
        Check.due("16: patience", 26, gate.guard(0, 1));
        gate.watch(26);
        for (int traveller = 0; traveller < 6; traveller++) {
            gate.pass(traveller);
            gate.send(traveller + 6);
        }
        int[] want = {26, 24, 60, 4, 0, 12, 0, 6, 8, 0};
        for (int what = 0; what < want.length; what++) {
            Check.due("16: count " + what, want[what], gate.count(what));
        }
    }

    private static void promise16AllTolls() {
        StoryToll gate = Gates.story(1, 1);
        gate.tell(0, 0, 0);
        gate.reserve(0, 0);
        gate.send(0);
        Check.due("16: all tolls, with what was given, by one sent away", 14, gate.count(10));
    }

    public static void main(String[] args) {
        promise11NoScene();
        promise11What();
        promise11Followers();
        promise12NoGuard();
        promise12What();
        promise12EachTimeCounted();
        promise13NoTraveller();
        promise13What();
        promise13EndingsOncePassed();
        promise13EndingsOnceTold();
        promise13EightEndings();
        promise14NoPlot();
        promise14What();
        promise14ReservedByNobody();
        promise14ReservedOnceTold();
        promise14WonderOfScenesTwice();
        promise15NoPlot();
        promise15NoPlace();
        promise16What();
        promise16Full();
        promise16NoneLeft();
        promise16AllTolls();
        Check.end();
    }
}
