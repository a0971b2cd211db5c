/** Promises 6 to 10. */
final class TellingTest {
    private TellingTest() {
    }

    private static void promise6Worths() {
        StoryToll gate = Gates.story(2, 2);
        Check.due("6: the first scene has another hue than none", 14, gate.tell(0, 0, 5));
        Check.due("6: the same hue as the last", 9, gate.tell(1, 2, 0));
        Check.due("6: another hue", 18, gate.tell(1, 3, 0));
        Check.due("6: heard once, 9 / 2 + 2", 6, gate.tell(0, 2, 0));
        Check.due("6: heard once, 16 / 2 + 2", 10, gate.tell(0, 3, 0));
        Check.due("6: heard twice, 9 / 3 + 2", 5, gate.tell(0, 2, 0));
        Check.due("6: paid by 0", 14 + 6 + 10 + 5, gate.traveller(0, 1));
        Check.due("6: paid by 1", 9 + 18, gate.traveller(1, 1));
        Check.due("6: told by 0", 4, gate.traveller(0, 3));
        Check.due("6: told by 1", 2, gate.traveller(1, 3));
        Check.due("6: told of scene 2", 3, gate.scene(2, 4));
        Check.due("6: heard by 1", 6, gate.guard(1, 2));
        Check.due("6: all tolls", 62, gate.count(10));
        Check.due("6: the plot", 6, gate.plot(0, 0));
    }

    private static void promise6Patience() {
        StoryToll gate = new StoryToll();
        gate.make(0, 4, 0);
        gate.post();
        gate.come(1);
        gate.tell(0, 0, 0);
        Check.due("6: pleased by 6", 23, gate.guard(0, 1));
        gate.tell(0, 0, 0);
        Check.due("6: bored by 2", 19, gate.guard(0, 1));
        gate.make(0, 4, 0);
        gate.make(0, 3, 0);
        gate.come(7);
        Check.due("6: worth 4", 4, gate.tell(1, 1, 0));
        Check.due("6: pleased by 4", 22, gate.guard(0, 1));
        Check.due("6: worth 3", 3, gate.tell(1, 2, 0));
        Check.due("6: bored by 3", 18, gate.guard(0, 1));
    }

    private static void promise6MostPatience() {
        StoryToll gate = Gates.story(1, 1);
        int[] row = {0, 2, 3, 2, 3};
        int[] patience = {23, 26, 29, 30, 30};
        for (int i = 0; i < row.length; i++) {
            gate.tell(0, row[i], 0);
            Check.due("6: patience behind " + i, patience[i], gate.guard(0, 1));
        }
    }

    private static void promise6FallingAsleep() {
        StoryToll gate = new StoryToll();
        gate.make(0, 1, 0);
        gate.post();
        gate.come(1);
        gate.watch(12);
        Check.due("6: patience ahead", 8, gate.guard(0, 1));
        Check.due("6: worth 3", 3, gate.tell(0, 0, 0));
        Check.due("6: patience 4", 4, gate.guard(0, 1));
        Check.due("6: still awake", 1, gate.guard(0, 0));
        Check.due("6: worth 0", 0, gate.tell(0, 0, 0));
        Check.due("6: patience 0", 0, gate.guard(0, 1));
        Check.due("6: asleep", 0, gate.guard(0, 0));
        gate.make(0, 20, 5);
        gate.come(2);
        Check.due("6: nobody is awake", 0, gate.tell(1, 1, 0));
        Check.due("6: who sleeps hears nothing", 2, gate.guard(0, 2));
        Check.due("6: who sleeps has no more patience", 0, gate.guard(0, 1));
        Check.due("6: the last hue is told to nobody too", 20, gate.worth(0, 1));
        Check.due("6: a scene told to nobody", 1, gate.scene(1, 4));
        gate.post();
        gate.tell(1, 1, 0);
        Check.due("6: the new guard hears", 1, gate.guard(1, 2));
        Check.due("6: the old one does not", 2, gate.guard(0, 2));
    }

    private static void promise6NotBelowZero() {
        StoryToll gate = new StoryToll();
        gate.make(0, 1, 0);
        gate.post();
        gate.come(1);
        gate.watch(17);
        Check.due("6: the toll of who falls asleep by it", 3, gate.tell(0, 0, 0));
        Check.due("6: patience 3 - 4", 0, gate.guard(0, 1));
        Check.due("6: asleep", 0, gate.guard(0, 0));
    }

    private static void promise6AwakeWithOne() {
        StoryToll gate = new StoryToll();
        gate.make(0, 1, 0);
        gate.post();
        gate.come(1);
        gate.watch(15);
        gate.tell(0, 0, 0);
        Check.due("6: patience 5 - 4", 1, gate.guard(0, 1));
        Check.due("6: awake with 1", 1, gate.guard(0, 0));
    }

    private static void promise6GreatestWorth() {
        StoryToll gate = Gates.story(1, 1);
        gate.tell(0, 0, 0);
        gate.post();
        Check.due("6: worth for who heard it", 6, gate.worth(0, 0));
        Check.due("6: worth for who did not", 12, gate.worth(1, 0));
        Check.due("6: the greatest", 12, gate.tell(0, 0, 0));
        Check.due("6: patience of the first", 26, gate.guard(0, 1));
        gate.watch(23);
        Check.due("6: the second sleeps", 0, gate.guard(1, 0));
        Check.due("6: worth for who sleeps", 6, gate.worth(1, 0));
        Check.due("6: the greatest for who is awake", 4, gate.tell(0, 0, 0));
    }

    private static void promise6NoGuard() {
        StoryToll gate = Gates.story(0, 1);
        Check.due("6: no guard", 0, gate.tell(0, 0, 0));
        gate.post();
        Check.due("6: told ahead of the guard", 12, gate.worth(0, 0));
    }

    private static void promise6NoIndex() {
        StoryToll gate = Gates.story(1, 1);
        gate.tell(0, 0, 0);
        int[][] wrong = {{-1, 2, 0}, {1, 2, 0}, {0, -1, 0}, {0, 7, 0}, {0, 2, -1}, {0, 2, 1}, {1, 0, 0},
            {Integer.MIN_VALUE, 0, 0}, {0, Integer.MAX_VALUE, 0}, {0, 5, Integer.MIN_VALUE}};
        for (int[] w : wrong) {
            Check.noIndex("6: tell " + w[0] + " " + w[1] + " " + w[2], gate, () -> gate.tell(w[0], w[1], w[2]));
        }
        gate.send(0);
        Check.noIndex("6: no plot goes ahead of not on the way", gate, () -> gate.tell(0, 2, 1));
        Check.noState("6: sent away", gate, () -> gate.tell(0, 2, 0));
        Check.noState("6: sent away, a beginning", gate, () -> gate.tell(0, 0, 0));
    }

    private static void promise6CannotBeToldOn() {
        StoryToll gate = Gates.story(1, 2);
        gate.come(0b0000010);
        gate.tell(0, 0, 0);
        Check.noState("6: who does not know it", gate, () -> gate.tell(2, 2, 0));
        Check.noState("6: who does not know the beginning", gate, () -> gate.tell(2, 0, 0));
        Check.noState("6: it cannot follow", gate, () -> gate.tell(0, 3, 0));
        gate.tell(0, 2, 0);
        Check.noState("6: it cannot follow itself", gate, () -> gate.tell(0, 2, 0));
        gate.tell(0, 4, 0);
        gate.tell(1, 6, 0);
        Check.due("6: closed", 0, gate.plot(0, 1));
        Check.noState("6: a closed plot", gate, () -> gate.tell(0, 6, 0));
        Check.noState("6: a closed plot, a middle", gate, () -> gate.tell(0, 2, 0));
        gate.tell(2, 1, -7);
        Check.due("6: a plot may end behind its beginning", 1, gate.plot(1, 1));
        gate.tell(1, 6, 1);
        Check.due("6: closed", 0, gate.plot(1, 1));
        gate.pass(0);
        Check.noState("6: passed", gate, () -> gate.tell(0, 0, 0));
    }

    private static void promise6EightScenes() {
        StoryToll gate = Gates.story(1, 1);
        int[] row = {0, 2, 3, 2, 3, 2, 3, 2};
        for (int scene : row) {
            gate.tell(0, scene, 0);
        }
        Check.due("6: scenes", 8, gate.plot(0, 0));
        Check.due("6: open", 1, gate.plot(0, 1));
        Check.noState("6: a ninth scene", gate, () -> gate.tell(0, 3, 0));
        Check.noState("6: a ninth scene, another", gate, () -> gate.tell(0, 4, 0));
        int[] shorter = {0, 2, 3, 2, 3, 2, 3, 5};
        for (int scene : shorter) {
            gate.tell(0, scene, 1);
        }
        Check.due("6: an ending as the eighth", 0, gate.plot(1, 1));
    }

    private static void promise6EightPlots() {
        StoryToll gate = Gates.story(1, 1);
        for (int plot = 0; plot < 8; plot++) {
            gate.tell(0, plot % 2, 0);
            Check.due("6: plots", plot + 1, gate.count(8));
        }
        Check.noState("6: a ninth plot", gate, () -> gate.tell(0, 0, 0));
        gate.tell(0, 6, 1);
        Check.noState("6: a ninth plot, one is closed", gate, () -> gate.tell(0, 1, 0));
        gate.tell(0, 2, 0);
        Check.due("6: told on in the first", 2, gate.plot(0, 0));
    }

    private static void promise6Reserved() {
        StoryToll gate = Gates.story(1, 2);
        gate.tell(0, 1, 0);
        gate.reserve(0, 0);
        gate.tell(1, 1, 0);
        Check.noState("6: reserved by another one", gate, () -> gate.tell(1, 6, 0));
        gate.tell(1, 6, 1);
        Check.due("6: not reserved in that plot", 0, gate.plot(1, 1));
        gate.tell(0, 6, 0);
        Check.due("6: who reserved it", 0, gate.plot(0, 1));
        gate.tell(0, 0, 0);
        gate.reserve(0, 2);
        gate.tell(1, 2, 2);
        Check.due("6: a middle is not reserved", 2, gate.plot(2, 0));
    }

    private static void promise7Reserve() {
        StoryToll gate = Gates.story(1, 3);
        gate.tell(0, 0, 0);
        gate.tell(0, 1, 0);
        int[][] wrong = {{-1, 0}, {3, 0}, {0, -1}, {0, 2}, {Integer.MAX_VALUE, 0}, {0, Integer.MIN_VALUE}};
        for (int[] w : wrong) {
            Check.noIndex("7: reserve " + w[0] + " " + w[1], gate, () -> gate.reserve(w[0], w[1]));
        }
        Check.noState("7: paid nothing", gate, () -> gate.reserve(1, 0));
        Check.due("7: paid ahead", 21, gate.traveller(0, 1));
        Check.due("7: 5 are given", 16, gate.reserve(0, 0));
        Check.due("7: paid then", 16, gate.traveller(0, 1));
        Check.due("7: reserved by", 0, gate.plot(0, 2));
        Check.due("7: endings", 1, gate.traveller(0, 4));
        Check.due("7: all tolls stay", 21, gate.count(10));
        Check.noState("7: reserved already by this one", gate, () -> gate.reserve(0, 0));
        gate.tell(1, 0, 0);
        Check.noState("7: reserved already by another one", gate, () -> gate.reserve(1, 0));
        gate.tell(1, 6, 1);
        Check.noState("7: a closed plot", gate, () -> gate.reserve(1, 1));
        gate.send(1);
        Check.noState("7: sent away", gate, () -> gate.reserve(1, 2));
        Check.noIndex("7: sent away, no plot", gate, () -> gate.reserve(1, 3));
        gate.pass(0);
        Check.noState("7: passed", gate, () -> gate.reserve(0, 2));
    }

    private static void promise7PaidFive() {
        StoryToll gate = new StoryToll();
        gate.make(0, 3, 0);
        gate.make(0, 2, 0);
        gate.post();
        gate.come(3);
        gate.come(3);
        Check.due("7: toll 5", 5, gate.tell(0, 0, 0));
        Check.due("7: all is given", 0, gate.reserve(0, 0));
        gate.tell(1, 1, 0);
        gate.tell(1, 1, 0);
        gate.tell(1, 0, 0);
        Check.due("7: paid 4", 4, gate.traveller(1, 1));
        Check.noState("7: paid less than 5", gate, () -> gate.reserve(1, 1));
    }

    private static void promise8Pass() {
        StoryToll gate = Gates.story(1, 3);
        Check.noIndex("8: no traveller", gate, () -> gate.pass(3));
        Check.noIndex("8: no traveller", gate, () -> gate.pass(-1));
        gate.tell(0, 0, 0);
        Check.due("8: paid 14", false, gate.pass(0));
        Check.due("8: still on the way", 0, gate.traveller(0, 2));
        gate.tell(0, 2, 0);
        Check.due("8: paid 23", true, gate.pass(0));
        Check.due("8: passed", 1, gate.traveller(0, 2));
        Check.due("8: paid stays", 23, gate.traveller(0, 1));
        Check.noState("8: passed already", gate, () -> gate.pass(0));
        gate.send(1);
        Check.noState("8: sent away", gate, () -> gate.pass(1));
        Check.due("8: count of passed", 1, gate.count(7));
    }

    private static void promise8PaidFifteen() {
        StoryToll gate = new StoryToll();
        gate.make(0, 13, 0);
        gate.post();
        gate.come(1);
        gate.tell(0, 0, 0);
        Check.due("8: paid 15", 15, gate.traveller(0, 1));
        gate.reserve(0, 0);
        Check.due("8: paid 10, 5 given", false, gate.pass(0));
        gate.tell(0, 0, 0);
        Check.due("8: paid 16", true, gate.pass(0));
        gate.make(0, 13, 1);
        gate.come(2);
        gate.tell(1, 1, 0);
        Check.due("8: paid just 15", 15, gate.traveller(1, 1));
        Check.due("8: passes with just 15", true, gate.pass(1));
    }

    private static void promise8NobodyAwake() {
        StoryToll gate = Gates.story(0, 3);
        Check.due("8: no guard", true, gate.pass(0));
        Check.due("8: passed", 1, gate.traveller(0, 2));
        gate.post();
        gate.watch(10);
        gate.post();
        Check.due("8: two awake", false, gate.pass(1));
        gate.watch(10);
        Check.due("8: one awake", false, gate.pass(1));
        Check.due("8: asks again", false, gate.pass(1));
        gate.watch(1);
        Check.due("8: still one awake", 1, gate.count(4));
        StoryToll other = Gates.story(2, 1);
        other.watch(20);
        Check.due("8: all asleep", true, other.pass(0));
    }

    private static void promise9Send() {
        StoryToll gate = Gates.story(1, 3);
        Check.noIndex("9: no traveller", gate, () -> gate.send(3));
        Check.noIndex("9: no traveller", gate, () -> gate.send(-1));
        for (int plot = 0; plot < 4; plot++) {
            gate.tell(0, 0, 0);
            gate.tell(1, plot % 2, 0);
        }
        gate.reserve(0, 0);
        gate.reserve(0, 3);
        gate.reserve(1, 1);
        Check.due("9: endings", 2, gate.traveller(0, 4));
        int paid = gate.traveller(0, 1);
        Check.due("9: what is paid", paid, gate.send(0));
        Check.due("9: sent away", 2, gate.traveller(0, 2));
        Check.due("9: paid stays", paid, gate.traveller(0, 1));
        Check.due("9: no endings", 0, gate.traveller(0, 4));
        Check.due("9: free", -1, gate.plot(0, 2));
        Check.due("9: free", -1, gate.plot(3, 2));
        Check.due("9: of another one", 1, gate.plot(1, 2));
        Check.due("9: on the way", 2, gate.count(6));
        Check.due("9: passed", 0, gate.count(7));
        Check.noState("9: sent already", gate, () -> gate.send(0));
        gate.reserve(1, 0);
        Check.due("9: reserved anew", 1, gate.plot(0, 2));
        gate.tell(1, 2, 1);
        gate.tell(1, 3, 1);
        Check.due("9: another one passes", true, gate.pass(1));
        Check.due("9: who passed keeps the endings", 2, gate.traveller(1, 4));
        Check.noState("9: passed", gate, () -> gate.send(1));
    }

    private static void promise9FreeToTell() {
        StoryToll gate = Gates.story(1, 2);
        gate.tell(0, 1, 0);
        gate.reserve(0, 0);
        Check.noState("9: reserved", gate, () -> gate.tell(1, 6, 0));
        gate.send(0);
        gate.tell(1, 6, 0);
        Check.due("9: told by another one", 0, gate.plot(0, 1));
    }

    private static void promise10Watch() {
        StoryToll gate = new StoryToll();
        int[] wrong = {0, -1, 101, Integer.MIN_VALUE, Integer.MAX_VALUE};
        for (int watches : wrong) {
            Check.noArgument("10: watch " + watches, gate, () -> gate.watch(watches));
        }
        Check.due("10: without guards", 0, gate.watch(100));
        Check.due("10: the watch", 100, gate.count(0));
        gate.post();
        Check.due("10: awake", 1, gate.watch(1));
        Check.due("10: patience", 19, gate.guard(0, 1));
        Check.due("10: awake with 1", 1, gate.watch(18));
        Check.due("10: patience", 1, gate.guard(0, 1));
        gate.post();
        Check.due("10: one falls asleep", 1, gate.watch(1));
        Check.due("10: the first", 0, gate.guard(0, 0));
        Check.due("10: patience", 0, gate.guard(0, 1));
        Check.due("10: asleep with 5", 1, gate.watch(1));
        Check.due("10: patience", 5, gate.guard(0, 1));
        Check.due("10: wakes with 10", 2, gate.watch(1));
        Check.due("10: patience", 10, gate.guard(0, 1));
        Check.due("10: awake again", 1, gate.guard(0, 0));
        Check.due("10: the watch", 122, gate.count(0));
        Check.due("10: asleep again", 1, gate.watch(10));
        Check.due("10: the first", 0, gate.guard(0, 0));
        Check.due("10: the second", 7, gate.guard(1, 1));
    }

    private static void promise10ManyWatches() {
        StoryToll once = new StoryToll();
        once.post();
        StoryToll often = new StoryToll();
        often.post();
        for (int i = 0; i < 5; i++) {
            once.watch(100 - i);
            for (int j = 0; j < 100 - i; j++) {
                often.watch(1);
            }
            Check.due("10: at once or one by one", often.digest(), once.digest());
        }
    }

    public static void main(String[] args) {
        promise6Worths();
        promise6Patience();
        promise6MostPatience();
        promise6FallingAsleep();
        promise6NotBelowZero();
        promise6AwakeWithOne();
        promise6GreatestWorth();
        promise6NoGuard();
        promise6NoIndex();
        promise6CannotBeToldOn();
        promise6EightScenes();
        promise6EightPlots();
        promise6Reserved();
        promise7Reserve();
        promise7PaidFive();
        promise8Pass();
        promise8PaidFifteen();
        promise8NobodyAwake();
        promise9Send();
        promise9FreeToTell();
        promise10Watch();
        promise10ManyWatches();
        Check.end();
    }
}
