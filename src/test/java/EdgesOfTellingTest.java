/** The boundary cases of promise 6, and of the terms that hold for it (worth, patience, toll): a test for each. */
final class EdgesOfTellingTest {
    private static final int[] FAR = {Integer.MIN_VALUE, -1, Integer.MAX_VALUE};

    private EdgesOfTellingTest() {
    }

    /** A gate with one beginning and a guard with this patience, and a traveller who knows the beginning. */
    private static StoryToll oneBeginning(int wonder, int hue, int patience) {
        StoryToll gate = Gates.guardWithPatience(patience);
        gate.make(0, wonder, hue);
        gate.come(1);
        return gate;
    }

    private static void tellRow(StoryToll gate, int plot, int... row) {
        for (int scene : row) {
            gate.tell(0, scene, plot);
        }
    }

    private static void noTraveller() {
        StoryToll gate = Gates.full();
        for (int far : FAR) {
            Check.noIndex("6: traveller " + far, gate, () -> gate.tell(far, 4, 0));
        }
        Check.noIndex("6: traveller 12", gate, () -> gate.tell(12, 4, 0));
        gate.tell(11, 4, 0);
        Check.due("6: traveller 11", 1, gate.traveller(11, 3));
    }

    private static void noScene() {
        StoryToll gate = Gates.full();
        for (int far : FAR) {
            Check.noIndex("6: scene " + far, gate, () -> gate.tell(0, far, 0));
        }
        Check.noIndex("6: scene 24", gate, () -> gate.tell(0, 24, 0));
        gate.tell(0, 23, 3);
        Check.due("6: scene 23", 1, gate.scene(23, 4));
    }

    private static void noPlot() {
        StoryToll gate = Gates.full();
        for (int far : FAR) {
            Check.noIndex("6: a middle, plot " + far, gate, () -> gate.tell(0, 7, far));
            Check.noIndex("6: an ending, plot " + far, gate, () -> gate.tell(0, 23, far));
        }
        Check.noIndex("6: plot 8", gate, () -> gate.tell(0, 7, 8));
        gate.tell(0, 7, 7);
        Check.due("6: plot 7", 2, gate.plot(7, 0));
        StoryToll empty = Gates.story(1, 1);
        Check.noIndex("6: a middle, and no plot at all", empty, () -> empty.tell(0, 2, 0));
        Check.noIndex("6: an ending, and no plot at all", empty, () -> empty.tell(0, 6, 0));
    }

    private static void plotOfNoMatterForBeginning() {
        StoryToll gate = Gates.story(1, 1);
        int[] plots = {-1, Integer.MIN_VALUE, Integer.MAX_VALUE, 8, 0, 1};
        for (int i = 0; i < plots.length; i++) {
            gate.tell(0, 0, plots[i]);
            Check.due("6: plots, told with " + plots[i], i + 1, gate.count(8));
            Check.due("6: the new plot", 1, gate.plot(i, 0));
        }
        Check.due("6: the plot 0", 1, gate.plot(0, 0));
        tellRow(gate, 0, 2, 3, 5);
        gate.tell(0, 1, 0);
        Check.due("6: told with a plot that is not open", 7, gate.count(8));
    }

    private static void indexGoesFirst() {
        StoryToll gate = Gates.story(1, 2);
        gate.come(0);
        gate.send(1);
        Check.noIndex("6: no plot, sent away", gate, () -> gate.tell(1, 2, 0));
        Check.noIndex("6: no plot, does not know it", gate, () -> gate.tell(2, 2, 0));
        Check.noIndex("6: no scene, sent away", gate, () -> gate.tell(1, 7, 0));
        StoryToll full = Gates.full();
        Check.noIndex("6: no traveller, a beginning, 8 plots", full, () -> full.tell(12, 0, 0));
    }

    private static void passed() {
        StoryToll gate = Gates.story(0, 1);
        gate.tell(0, 0, 0);
        gate.pass(0);
        Check.noState("6: passed, a beginning", gate, () -> gate.tell(0, 0, 0));
        Check.noState("6: passed, a middle", gate, () -> gate.tell(0, 2, 0));
    }

    private static void sentAway() {
        StoryToll gate = Gates.story(0, 1);
        gate.tell(0, 0, 0);
        gate.send(0);
        Check.noState("6: sent away, a beginning", gate, () -> gate.tell(0, 0, 0));
        Check.noState("6: sent away, a middle", gate, () -> gate.tell(0, 2, 0));
    }

    private static void doesNotKnow() {
        StoryToll gate = Gates.story(0, 1);
        gate.tell(0, 0, 0);
        gate.tell(0, 1, 0);
        gate.come(Gates.ALL & ~(1 << 0));
        gate.come(Gates.ALL & ~(1 << 2));
        gate.come(Gates.ALL & ~(1 << 6));
        Check.noState("6: a beginning", gate, () -> gate.tell(1, 0, 0));
        Check.noState("6: a middle", gate, () -> gate.tell(2, 2, 0));
        Check.noState("6: an ending", gate, () -> gate.tell(3, 6, 1));
    }

    private static void eightPlots() {
        StoryToll gate = Gates.story(0, 1);
        tellRow(gate, 0, 1, 1, 1, 1, 1, 1, 1);
        gate.tell(0, 1, 0);
        Check.due("6: the eighth", 8, gate.count(8));
        Check.noState("6: a ninth", gate, () -> gate.tell(0, 1, 0));
        for (int plot = 0; plot < 8; plot++) {
            gate.tell(0, 6, plot);
        }
        Check.noState("6: a ninth, none is open", gate, () -> gate.tell(0, 1, 0));
        Check.due("6: plots", 8, gate.count(8));
    }

    private static void notOpen() {
        StoryToll gate = Gates.story(0, 1);
        gate.make(2, 1, 1);
        gate.come(255);
        tellRow(gate, 0, 0, 2, 4, 6);
        gate.follow(4, 7);
        Check.noState("6: an ending behind an ending", gate, () -> gate.tell(1, 7, 0));
        Check.noState("6: a middle behind an ending", gate, () -> gate.tell(1, 2, 0));
    }

    private static void eightScenes() {
        StoryToll gate = Gates.story(0, 1);
        tellRow(gate, 0, 0, 2, 3, 2, 3, 2, 3);
        Check.due("6: seven scenes", 7, gate.plot(0, 0));
        gate.tell(0, 2, 0);
        Check.due("6: the eighth", 8, gate.plot(0, 0));
        Check.noState("6: a ninth, a middle", gate, () -> gate.tell(0, 3, 0));
        gate.follow(2, 5);
        Check.noState("6: a ninth, an ending", gate, () -> gate.tell(0, 5, 0));
    }

    private static void endingIsTheEighth() {
        StoryToll gate = Gates.story(0, 1);
        tellRow(gate, 0, 0, 2, 3, 2, 3, 2, 3, 5);
        Check.due("6: eight scenes", 8, gate.plot(0, 0));
        Check.due("6: not open", 0, gate.plot(0, 1));
    }

    private static void cannotFollow() {
        StoryToll gate = Gates.story(0, 1);
        tellRow(gate, 0, 0, 2);
        Check.noState("6: behind the first, not the last", gate, () -> gate.tell(0, 5, 0));
        Check.noState("6: the other way round", gate, () -> gate.tell(0, 6, 0));
        gate.follow(0, 6);
        Check.noState("6: it can follow the first, not the last", gate, () -> gate.tell(0, 6, 0));
        gate.follow(2, 6);
        gate.tell(0, 6, 0);
        Check.due("6: it can now", 3, gate.plot(0, 0));
    }

    /** Ends with traveller 0 having reserved the ending of plot 0, which is 1 and can be ended with 6. */
    private static StoryToll reserved() {
        StoryToll gate = Gates.story(1, 2);
        gate.tell(0, 1, 0);
        gate.tell(0, 0, 0);
        gate.tell(0, 1, 0);
        gate.reserve(0, 0);
        return gate;
    }

    private static void reservedByAnother() {
        StoryToll gate = reserved();
        Check.noState("6: reserved", gate, () -> gate.tell(1, 6, 0));
    }

    private static void reservedByOneWhoPassed() {
        StoryToll gate = reserved();
        Check.due("6: 7 + 14 + 4 - 5", true, gate.pass(0));
        Check.noState("6: reserved, by one who passed", gate, () -> gate.tell(1, 6, 0));
    }

    private static void reservedByOneWhoWasSent() {
        StoryToll gate = reserved();
        gate.send(0);
        gate.tell(1, 6, 0);
        Check.due("6: free", 0, gate.plot(0, 1));
    }

    private static void reservedByThisOne() {
        StoryToll gate = reserved();
        gate.tell(0, 6, 0);
        Check.due("6: told", 0, gate.plot(0, 1));
    }

    private static void reservedInAnotherPlot() {
        StoryToll gate = reserved();
        gate.tell(1, 6, 2);
        Check.due("6: the same ending in another plot", 0, gate.plot(2, 1));
    }

    private static void reservedEndingNotMiddle() {
        StoryToll gate = Gates.story(1, 2);
        gate.tell(0, 0, 0);
        gate.reserve(0, 0);
        gate.tell(1, 2, 0);
        Check.due("6: a middle", 2, gate.plot(0, 0));
    }

    private static void worthIsCut() {
        StoryToll gate = oneBeginning(5, 0, 20);
        Check.due("6: 5 and 2", 7, gate.tell(0, 0, 0));
        Check.due("6: 5 / 2", 2, gate.tell(0, 0, 0));
        Check.due("6: 5 / 3", 1, gate.tell(0, 0, 0));
        Check.due("6: 5 / 4", 1, gate.tell(0, 0, 0));
        Check.due("6: 5 / 5", 1, gate.tell(0, 0, 0));
    }

    private static void worthNone() {
        StoryToll gate = oneBeginning(1, 0, 20);
        Check.due("6: 1 and 2", 3, gate.tell(0, 0, 0));
        Check.due("6: 1 / 2", 0, gate.tell(0, 0, 0));
        Check.due("6: one is awake", 1, gate.count(4));
    }

    /** Of no scene that was told is the hue another one than 0, too. */
    private static void hueWhenNoneWasTold() {
        for (int hue = 0; hue <= 5; hue++) {
            Check.due("6: the first, hue " + hue, 12, oneBeginning(10, hue, 20).tell(0, 0, 0));
        }
    }

    private static void hueOfTheLastOfAll() {
        StoryToll gate = Gates.story(1, 1);
        gate.tell(0, 0, 0);
        gate.tell(0, 1, 0);
        Check.due("6: told last in another plot, with another hue", 11, gate.tell(0, 2, 0));
        Check.due("6: the same hue in another plot", 6, gate.tell(0, 0, 0));
    }

    private static void worthFour() {
        StoryToll gate = oneBeginning(2, 0, 20);
        Check.due("6: worth", 4, gate.tell(0, 0, 0));
        Check.due("6: 3 more", 23, gate.guard(0, 1));
    }

    private static void worthThree() {
        StoryToll gate = oneBeginning(1, 0, 20);
        Check.due("6: worth", 3, gate.tell(0, 0, 0));
        Check.due("6: 4 less", 16, gate.guard(0, 1));
    }

    /** The worth counts as it is ahead of the hearing: 7, not 7 / 2 and not 7 / 2 + 2. */
    private static void worthAheadOfHearing() {
        StoryToll gate = oneBeginning(5, 0, 20);
        gate.tell(0, 0, 0);
        Check.due("6: 3 more", 23, gate.guard(0, 1));
        Check.due("6: worth behind it", 2, gate.worth(0, 0));
    }

    private static void patienceAtMostThirty() {
        int[] want = {23, 26, 29, 30, 30, 30};
        StoryToll gate = Gates.story(1, 1);
        int[] row = {0, 2, 3, 2, 4, 6};
        for (int i = 0; i < row.length; i++) {
            gate.tell(0, row[i], 0);
            Check.due("6: patience " + i, want[i], gate.guard(0, 1));
        }
    }

    private static void patienceThirtyExactly() {
        StoryToll gate = Gates.story(1, 1);
        gate.tell(0, 0, 0);
        gate.tell(0, 2, 0);
        gate.tell(0, 3, 0);
        gate.watch(2);
        gate.tell(0, 2, 0);
        Check.due("6: 27 and 3", 30, gate.guard(0, 1));
    }

    private static void patienceToZero() {
        StoryToll gate = oneBeginning(1, 0, 4);
        Check.due("6: paid by it", 3, gate.tell(0, 0, 0));
        Check.due("6: 4 less 4", 0, gate.guard(0, 1));
        Check.due("6: asleep", 0, gate.guard(0, 0));
    }

    private static void patienceNotBelowZero() {
        for (int patience = 1; patience <= 3; patience++) {
            StoryToll gate = oneBeginning(1, 0, patience);
            gate.tell(0, 0, 0);
            Check.due("6: " + patience + " less 4", 0, gate.guard(0, 1));
            Check.due("6: asleep", 0, gate.guard(0, 0));
        }
    }

    private static void patienceOneIsAwake() {
        StoryToll gate = oneBeginning(1, 0, 5);
        gate.tell(0, 0, 0);
        Check.due("6: 5 less 4", 1, gate.guard(0, 1));
        Check.due("6: awake", 1, gate.guard(0, 0));
    }

    private static void asleepHearsNothing() {
        StoryToll gate = oneBeginning(12, 0, 4);
        gate.watch(4);
        gate.post();
        gate.tell(0, 0, 0);
        Check.due("6: heard nothing", 0, gate.guard(0, 2));
        Check.due("6: patience stays", 0, gate.guard(0, 1));
        Check.due("6: worth but for the hue", 12, gate.worth(0, 0));
        Check.due("6: heard by the other one", 1, gate.guard(1, 2));
    }

    private static void noTollWhileAllSleep() {
        StoryToll gate = oneBeginning(20, 0, 1);
        gate.watch(1);
        Check.due("6: toll", 0, gate.tell(0, 0, 0));
        Check.due("6: paid", 0, gate.traveller(0, 1));
        Check.due("6: told", 1, gate.traveller(0, 3));
        Check.due("6: told of the scene", 1, gate.scene(0, 4));
        Check.due("6: the plot", 1, gate.count(8));
    }

    private static void noTollWithoutGuards() {
        StoryToll gate = Gates.story(0, 1);
        Check.due("6: toll", 0, gate.tell(0, 0, 0));
        Check.due("6: all tolls", 0, gate.count(10));
        Check.due("6: told", 1, gate.traveller(0, 3));
    }

    private static void greatestOfThoseAwake() {
        StoryToll gate = oneBeginning(20, 0, 20);
        gate.tell(0, 0, 0);
        gate.watch(11);
        gate.post();
        gate.watch(12);
        Check.due("6: the first sleeps", 0, gate.guard(0, 0));
        Check.due("6: the second is awake", 1, gate.guard(1, 0));
        gate.tell(0, 0, 0);
        gate.tell(0, 0, 0);
        Check.due("6: worth for who sleeps", 10, gate.worth(0, 0));
        Check.due("6: for who is awake, 20 / 3", 6, gate.tell(0, 0, 0));
    }

    public static void main(String[] args) {
        noTraveller();
        noScene();
        noPlot();
        plotOfNoMatterForBeginning();
        indexGoesFirst();
        passed();
        sentAway();
        doesNotKnow();
        eightPlots();
        notOpen();
        eightScenes();
        endingIsTheEighth();
        cannotFollow();
        reservedByAnother();
        reservedByOneWhoPassed();
        reservedByOneWhoWasSent();
        reservedByThisOne();
        reservedInAnotherPlot();
        reservedEndingNotMiddle();
        worthIsCut();
        worthNone();
        hueWhenNoneWasTold();
        hueOfTheLastOfAll();
        worthFour();
        worthThree();
        worthAheadOfHearing();
        patienceAtMostThirty();
        patienceThirtyExactly();
        patienceToZero();
        patienceNotBelowZero();
        patienceOneIsAwake();
        asleepHearsNothing();
        noTollWhileAllSleep();
        noTollWithoutGuards();
        greatestOfThoseAwake();
        Check.end();
    }
}
