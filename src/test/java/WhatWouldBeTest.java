/** Promises 17 to 22. */
final class WhatWouldBeTest {
    private WhatWouldBeTest() {
    }

    private static void promise17Worth() {
        StoryToll gate = Gates.story(1, 1);
        Check.due("17: none was told yet", 14, gate.worth(0, 0));
        gate.tell(0, 0, 0);
        Check.due("17: heard once, the same hue", 6, gate.worth(0, 0));
        Check.due("17: another hue", 7, gate.worth(0, 1));
        Check.due("17: the same hue", 9, gate.worth(0, 2));
        Check.due("17: an ending", 22, gate.worth(0, 5));
        gate.tell(0, 1, 0);
        Check.due("17: cut towards 0, another hue now", 8, gate.worth(0, 0));
        Check.due("17: 5 / 2", 2, gate.worth(0, 1));
        gate.watch(26);
        Check.due("17: asleep", 0, gate.guard(0, 0));
        Check.due("17: who sleeps too", 8, gate.worth(0, 0));
        gate.post();
        Check.due("17: another guard", 14, gate.worth(1, 0));
        int[][] wrong = {{-1, 0}, {2, 0}, {0, -1}, {0, 7}, {Integer.MIN_VALUE, 0}, {0, Integer.MAX_VALUE}};
        for (int[] w : wrong) {
            Check.noIndex("17: worth " + w[0] + " " + w[1], gate, () -> gate.worth(w[0], w[1]));
        }
    }

    private static void promise18Best() {
        StoryToll gate = Gates.story(1, 2);
        gate.come(0b1000100);
        gate.come(0);
        Check.noIndex("18: no plot yet", gate, () -> gate.best(0, 0));
        gate.tell(0, 0, 0);
        Check.due("18: told on", 2, gate.best(0, 0));
        Check.due("18: another one", 2, gate.best(1, 0));
        Check.due("18: who knows little", 2, gate.best(2, 0));
        Check.due("18: who knows nothing", -1, gate.best(3, 0));
        gate.tell(0, 2, 0);
        Check.due("18: more wonder", 3, gate.best(0, 0));
        Check.due("18: nothing that follows", -1, gate.best(2, 0));
        gate.tell(0, 3, 0);
        Check.due("18: the ending", 5, gate.best(0, 0));
        gate.reserve(0, 0);
        Check.due("18: a reserved ending by who reserved it", 5, gate.best(0, 0));
        Check.due("18: reserved by another one, a beginning of the same toll", 0, gate.best(1, 0));
        gate.tell(0, 5, 0);
        Check.due("18: a closed plot, a beginning", 0, gate.best(0, 0));
        Check.due("18: a closed plot, no beginning known", -1, gate.best(2, 0));
        int[][] wrong = {{-1, 0}, {4, 0}, {0, -1}, {0, 1}, {Integer.MAX_VALUE, 0}, {0, Integer.MIN_VALUE}};
        for (int[] w : wrong) {
            Check.noIndex("18: best " + w[0] + " " + w[1], gate, () -> gate.best(w[0], w[1]));
        }
        gate.pass(0);
        gate.send(1);
        Check.due("18: passed", -1, gate.best(0, 0));
        Check.due("18: sent away", -1, gate.best(1, 0));
        Check.noIndex("18: sent away, no plot", gate, () -> gate.best(1, 1));
    }

    private static void promise18SmallestNumber() {
        StoryToll gate = new StoryToll();
        gate.make(0, 6, 0);
        gate.make(1, 8, 0);
        gate.make(0, 6, 1);
        gate.make(1, 8, 1);
        gate.make(1, 10, 0);
        gate.follow(0, 3);
        gate.follow(0, 4);
        gate.post();
        gate.come(31);
        gate.tell(0, 0, 0);
        Check.due("18: the worth of 3", 10, gate.worth(0, 3));
        Check.due("18: the worth of 4", 10, gate.worth(0, 4));
        Check.due("18: of several the smallest", 3, gate.best(0, 0));
        gate.watch(23);
        Check.due("18: nobody is awake", 0, gate.count(4));
        Check.due("18: no toll, the smallest", 0, gate.best(0, 0));
        gate.post();
        Check.due("18: one is awake", 3, gate.best(0, 0));
    }

    private static void promise18EightPlots() {
        StoryToll gate = Gates.story(0, 1);
        gate.come(0b0000011);
        for (int plot = 0; plot < 8; plot++) {
            Check.due("18: plot " + plot, plot, gate.count(8));
            gate.tell(0, 0, 0);
            Check.due("18: a beginning", plot < 7 ? 0 : -1, gate.best(1, 0));
        }
        Check.due("18: no more beginnings", 2, gate.best(0, 7));
    }

    private static void promise18EightScenes() {
        StoryToll gate = Gates.story(1, 1);
        gate.come(0b1111100);
        int[] row = {0, 2, 3, 2, 3, 2, 3, 2};
        for (int scene : row) {
            gate.tell(0, scene, 0);
        }
        Check.due("18: eight scenes", -1, gate.best(1, 0));
    }

    private static void promise19Most() {
        StoryToll gate = Gates.story(1, 1);
        Check.noIndex("19: no plot", gate, () -> gate.most(0));
        gate.tell(0, 0, 0);
        Check.due("19: 2, 3, 5", 45, gate.most(0));
        gate.tell(0, 2, 0);
        Check.due("19: 3, 5", 36, gate.most(0));
        gate.tell(0, 3, 0);
        Check.due("19: 5, not 2 again", 20, gate.most(0));
        gate.tell(0, 2, 0);
        Check.due("19: 4, 6, not 3 again", 11, gate.most(0));
        gate.tell(0, 4, 0);
        Check.due("19: 6", 7, gate.most(0));
        gate.tell(0, 6, 0);
        Check.due("19: a closed plot", 0, gate.most(0));
        gate.tell(0, 1, 0);
        Check.due("19: who reserved it is of no matter", 7, gate.most(1));
        gate.send(0);
        Check.due("19: who is on the way is of no matter", 7, gate.most(1));
        for (int no : new int[] {-1, 2, 8, Integer.MIN_VALUE, Integer.MAX_VALUE}) {
            Check.noIndex("19: plot " + no, gate, () -> gate.most(no));
        }
    }

    private static void promise19EightScenes() {
        StoryToll gate = new StoryToll();
        gate.make(0, 20, 0);
        for (int i = 1; i <= 7; i++) {
            gate.make(1, i, 0);
            gate.follow(i - 1, i);
        }
        gate.come(255);
        gate.tell(0, 0, 0);
        Check.due("19: no ending", -1, gate.most(0));
        gate.make(2, 20, 0);
        gate.follow(7, 8);
        Check.due("19: nine scenes are too many", -1, gate.most(0));
        gate.follow(5, 8);
        Check.due("19: seven scenes", 15 + 20, gate.most(0));
        gate.follow(6, 8);
        Check.due("19: eight scenes", 21 + 20, gate.most(0));
        gate.make(2, 20, 0);
        gate.follow(0, 9);
        Check.due("19: a short one is less", 41, gate.most(0));
        gate.tell(0, 1, 0);
        Check.due("19: one scene further", 40, gate.most(0));
        gate.follow(1, 9);
        gate.follow(2, 1);
        Check.due("19: told on", 40, gate.most(0));
        gate.tell(0, 2, 0);
        gate.tell(0, 1, 0);
        Check.due("19: a longer plot has less room, and 2 is in it", 20, gate.most(0));
    }

    private static void promise19FullPlot() {
        StoryToll gate = Gates.story(1, 1);
        int[] row = {0, 2, 3, 2, 3, 2, 3};
        for (int scene : row) {
            gate.tell(0, scene, 0);
        }
        Check.due("19: seven scenes", 20, gate.most(0));
        gate.tell(0, 2, 0);
        Check.due("19: eight scenes, open", 1, gate.plot(0, 1));
        Check.due("19: eight scenes", -1, gate.most(0));
    }

    private static void promise19EndingsFirst() {
        StoryToll gate = new StoryToll();
        gate.make(2, 9, 0);
        gate.make(1, 4, 0);
        gate.make(0, 2, 0);
        gate.follow(2, 1);
        gate.follow(1, 0);
        gate.come(7);
        gate.tell(0, 2, 0);
        Check.due("19: the numbers go backwards", 13, gate.most(0));
        gate.follow(2, 0);
        Check.due("19: the long way is the most", 13, gate.most(0));
    }

    /** Seven middles, each of which can follow each other one. */
    private static void promise19ManyWays() {
        StoryToll gate = new StoryToll();
        gate.make(0, 1, 0);
        for (int i = 1; i <= 7; i++) {
            gate.make(1, 10 + i, 0);
            gate.follow(0, i);
        }
        gate.make(2, 3, 0);
        for (int i = 1; i <= 7; i++) {
            gate.follow(i, 8);
            for (int j = 1; j <= 7; j++) {
                if (i != j) {
                    gate.follow(i, j);
                }
            }
        }
        gate.come(1);
        gate.tell(0, 0, 0);
        Check.due("19: all but the middle with the least wonder", 12 + 13 + 14 + 15 + 16 + 17 + 3, gate.most(0));
    }

    private static void promise20Sleeps() {
        StoryToll gate = new StoryToll();
        gate.post();
        Check.due("20: a new guard", 20, gate.sleeps(0));
        gate.watch(19);
        Check.due("20: patience 1", 1, gate.sleeps(0));
        gate.watch(1);
        Check.due("20: asleep with 0", 2, gate.sleeps(0));
        gate.watch(1);
        Check.due("20: asleep with 5", 1, gate.sleeps(0));
        gate.watch(1);
        Check.due("20: awake again", 10, gate.sleeps(0));
        long before = gate.digest();
        gate.sleeps(0);
        Check.due("20: nothing is changed", before, gate.digest());
        gate.post();
        Check.due("20: another guard", 20, gate.sleeps(1));
        for (int no : new int[] {-1, 2, 4, Integer.MIN_VALUE, Integer.MAX_VALUE}) {
            Check.noIndex("20: guard " + no, gate, () -> gate.sleeps(no));
        }
    }

    private static void promise21Mean() {
        StoryToll gate = Gates.story(1, 1);
        Check.dueExactly("21: none was told", 0.0, gate.mean());
        gate.tell(0, 0, 0);
        Check.dueExactly("21: one", 14.0, gate.mean());
        gate.tell(0, 0, 0);
        gate.tell(0, 0, 0);
        Check.dueExactly("21: 14 + 6 + 4", 8.0, gate.mean());
        gate.reserve(0, 0);
        Check.dueExactly("21: what is given for an ending stays", 8.0, gate.mean());
        gate.tell(0, 2, 0);
        gate.tell(0, 1, 0);
        gate.tell(0, 1, 0);
        Check.dueExactly("21: a whole number", 7.0, gate.mean());
        gate.tell(0, 1, 0);
        Check.dueExactly("21: not a whole number", 43.0 / 7.0, gate.mean());
        StoryToll empty = Gates.story(0, 1);
        empty.tell(0, 0, 0);
        Check.dueExactly("21: no toll", 0.0, empty.mean());
    }

    private static void promise22Digest() {
        long d = 839;
        for (int i = 0; i < 11; i++) {
            d *= 31;
        }
        Check.due("22: a new gate", d, new StoryToll().digest());
        StoryToll gate = Gates.story(3, 3);
        Check.due("22: nothing was told", Gates.digestOf(gate), gate.digest());
        gate.tell(0, 0, 0);
        gate.tell(1, 1, 0);
        gate.tell(2, 2, 0);
        gate.reserve(0, 1);
        gate.tell(0, 6, 1);
        gate.watch(7);
        gate.send(1);
        Check.due("22: a busy gate", Gates.digestOf(gate), gate.digest());
        Check.due("22: it changes nothing", Gates.digestOf(gate), gate.digest());
    }

    public static void main(String[] args) {
        promise17Worth();
        promise18Best();
        promise18SmallestNumber();
        promise18EightPlots();
        promise18EightScenes();
        promise19Most();
        promise19EightScenes();
        promise19FullPlot();
        promise19EndingsFirst();
        promise19ManyWays();
        promise20Sleeps();
        promise21Mean();
        promise22Digest();
        Check.end();
    }
}
