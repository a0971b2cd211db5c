import java.math.BigInteger;

/** The boundary cases of promises 17 to 22: a test for each. */
final class EdgesOfWouldBeTest {
    private static final int[] FAR = {Integer.MIN_VALUE, -1, Integer.MAX_VALUE};

    private EdgesOfWouldBeTest() {
    }

    private static void promise17NoGuard() {
        StoryToll gate = Gates.full();
        for (int far : FAR) {
            Check.noIndex("17: guard " + far, gate, () -> gate.worth(far, 0));
        }
        Check.noIndex("17: guard 4", gate, () -> gate.worth(4, 0));
        StoryToll empty = Gates.story(0, 0);
        Check.noIndex("17: no guard at all", empty, () -> empty.worth(0, 0));
    }

    private static void promise17NoScene() {
        StoryToll gate = Gates.full();
        for (int far : FAR) {
            Check.noIndex("17: scene " + far, gate, () -> gate.worth(0, far));
        }
        Check.noIndex("17: scene 24", gate, () -> gate.worth(0, 24));
        Check.due("17: guard 3, scene 23", 4, gate.worth(3, 23));
    }

    private static void promise17NoneWasTold() {
        StoryToll gate = new StoryToll();
        gate.post();
        for (int hue = 0; hue <= 5; hue++) {
            gate.make(1, 1, hue);
            Check.due("17: hue " + hue, 3, gate.worth(0, hue));
        }
    }

    private static void promise17CutToNothing() {
        StoryToll gate = new StoryToll();
        gate.make(0, 2, 3);
        gate.post();
        gate.come(1);
        int[] want = {4, 1, 0, 0};
        for (int times = 0; times < want.length; times++) {
            Check.due("17: heard " + times + " times", want[times], gate.worth(0, 0));
            gate.tell(0, 0, 0);
        }
    }

    private static void promise17Asleep() {
        StoryToll gate = Gates.story(1, 0);
        gate.watch(20);
        Check.due("17: asleep", 0, gate.guard(0, 0));
        Check.due("17: worth for one asleep", 14, gate.worth(0, 0));
    }

    private static void promise18NoTraveller() {
        StoryToll gate = Gates.full();
        for (int far : FAR) {
            Check.noIndex("18: traveller " + far, gate, () -> gate.best(far, 0));
        }
        Check.noIndex("18: traveller 12", gate, () -> gate.best(12, 0));
    }

    private static void promise18NoPlot() {
        StoryToll gate = Gates.full();
        for (int far : FAR) {
            Check.noIndex("18: plot " + far, gate, () -> gate.best(0, far));
        }
        Check.noIndex("18: plot 8", gate, () -> gate.best(0, 8));
        StoryToll empty = Gates.story(1, 1);
        Check.noIndex("18: no plot at all, and a beginning to tell", empty, () -> empty.best(0, 0));
    }

    private static void promise18NotOnTheWay() {
        StoryToll gate = Gates.story(0, 2);
        gate.tell(0, 0, 0);
        gate.pass(0);
        gate.send(1);
        Check.due("18: passed", -1, gate.best(0, 0));
        Check.due("18: sent away", -1, gate.best(1, 0));
        Check.noIndex("18: passed, and no plot", gate, () -> gate.best(0, 1));
    }

    private static void promise18KnowsNone() {
        StoryToll gate = Gates.story(1, 1);
        gate.come(0);
        gate.tell(0, 0, 0);
        Check.due("18: knows none", -1, gate.best(1, 0));
    }

    private static void promise18NoneCanBeTold() {
        StoryToll gate = Gates.story(1, 1);
        gate.come(0b1111000);
        gate.tell(0, 0, 0);
        Check.due("18: none can follow", -1, gate.best(1, 0));
    }

    private static void promise18OnlyABeginning() {
        StoryToll gate = Gates.story(1, 1);
        gate.tell(0, 1, 0);
        gate.tell(0, 6, 0);
        Check.due("18: not open, a beginning", 0, gate.best(0, 0));
    }

    private static void promise18EightPlots() {
        StoryToll gate = Gates.story(1, 1);
        gate.come(0b0000011);
        for (int plot = 0; plot < 7; plot++) {
            gate.tell(0, 0, 0);
        }
        Check.due("18: an eighth, told on otherwise", 1, gate.best(1, 0));
        gate.tell(0, 0, 0);
        Check.due("18: a ninth", -1, gate.best(1, 0));
        Check.due("18: told on", 2, gate.best(0, 0));
    }

    private static void promise18EightScenes() {
        StoryToll gate = Gates.story(0, 1);
        gate.come(0b1111100);
        for (int scene : new int[] {0, 2, 3, 2, 3, 2, 3}) {
            gate.tell(0, scene, 0);
        }
        Check.due("18: an eighth scene", 2, gate.best(1, 0));
        gate.tell(0, 2, 0);
        Check.due("18: a ninth scene", -1, gate.best(1, 0));
    }

    private static void promise18ReservedByAnother() {
        StoryToll gate = Gates.story(1, 1);
        gate.come(0b1000000);
        gate.tell(0, 1, 0);
        Check.due("18: not reserved", 6, gate.best(1, 0));
        gate.reserve(0, 0);
        Check.due("18: reserved", -1, gate.best(1, 0));
        Check.due("18: reserved by this one, but a beginning is more", 0, gate.best(0, 0));
        gate.send(0);
        Check.due("18: free again", 6, gate.best(1, 0));
    }

    private static void promise18NobodyAwake() {
        StoryToll gate = Gates.story(0, 1);
        gate.come(0b0010110);
        gate.tell(0, 0, 0);
        Check.due("18: each pays 0, the smallest number", 0, gate.best(0, 0));
        Check.due("18: of those that this one knows", 1, gate.best(1, 0));
    }

    private static void promise18OfSeveralTheSmallest() {
        StoryToll gate = new StoryToll();
        gate.make(1, 9, 0);
        gate.make(1, 10, 0);
        gate.make(0, 10, 0);
        gate.make(2, 8, 1);
        gate.make(0, 1, 0);
        for (int behind : new int[] {0, 1, 3}) {
            gate.follow(4, behind);
        }
        gate.post();
        gate.come(31);
        gate.tell(0, 4, 0);
        Check.due("18: 9, 10, 10, 8 and 2", 1, gate.best(0, 0));
    }

    private static void promise19NoPlot() {
        StoryToll gate = Gates.full();
        for (int far : FAR) {
            Check.noIndex("19: plot " + far, gate, () -> gate.most(far));
        }
        Check.noIndex("19: plot 8", gate, () -> gate.most(8));
        StoryToll empty = Gates.story(1, 1);
        Check.noIndex("19: no plot at all", empty, () -> empty.most(0));
    }

    private static void promise19NotOpen() {
        StoryToll gate = Gates.story(1, 1);
        gate.tell(0, 1, 0);
        gate.tell(0, 6, 0);
        Check.due("19: not open", 0, gate.most(0));
    }

    private static void promise19NoPairs() {
        StoryToll gate = new StoryToll();
        gate.make(0, 5, 0);
        gate.make(2, 5, 0);
        gate.come(1);
        gate.tell(0, 0, 0);
        Check.due("19: no pair", -1, gate.most(0));
        gate.follow(0, 1);
        Check.due("19: an ending that nobody knows", 5, gate.most(0));
    }

    private static void promise19ReservedByAnother() {
        StoryToll gate = Gates.story(1, 2);
        gate.tell(0, 1, 0);
        gate.reserve(0, 0);
        Check.due("19: reserved", 7, gate.most(0));
    }

    /** Beginning, six middles, one behind the other, and an ending: eight scenes; with a seventh, nine. */
    private static void promise19EightScenesAtMost() {
        StoryToll gate = new StoryToll();
        gate.make(0, 1, 0);
        for (int middle = 1; middle <= 7; middle++) {
            gate.make(1, 2, 0);
            gate.follow(middle - 1, middle);
        }
        gate.make(2, 3, 0);
        gate.follow(7, 8);
        gate.come(255);
        gate.tell(0, 0, 0);
        Check.due("19: nine scenes", -1, gate.most(0));
        gate.follow(6, 8);
        Check.due("19: eight scenes", 15, gate.most(0));
        gate.tell(0, 1, 0);
        Check.due("19: six more", 13, gate.most(0));
    }

    private static void promise19OneScenePlace() {
        StoryToll gate = Gates.story(1, 1);
        for (int scene : new int[] {0, 2, 3, 2, 3, 2, 3}) {
            gate.tell(0, scene, 0);
        }
        Check.due("19: an ending as the eighth", 20, gate.most(0));
        gate.tell(0, 2, 0);
        gate.follow(2, 5);
        Check.due("19: an ending as the ninth", -1, gate.most(0));
    }

    /** A beginning 0, middles 1 and 2 that can follow each other, 1 behind 0, and an ending 3 behind 1. */
    private static StoryToll backAndForth() {
        StoryToll gate = new StoryToll();
        gate.make(0, 1, 0);
        gate.make(1, 20, 0);
        gate.make(1, 2, 0);
        gate.make(2, 3, 0);
        int[][] pairs = {{0, 1}, {1, 2}, {2, 1}, {1, 3}};
        for (int[] pair : pairs) {
            gate.follow(pair[0], pair[1]);
        }
        gate.come(15);
        return gate;
    }

    private static void promise19NotInItAlready() {
        StoryToll gate = backAndForth();
        gate.tell(0, 0, 0);
        gate.tell(0, 1, 0);
        gate.tell(0, 2, 0);
        Check.due("19: only by a scene that is in it already", -1, gate.most(0));
    }

    private static void promise19NotTwice() {
        StoryToll gate = backAndForth();
        gate.tell(0, 0, 0);
        Check.due("19: 1 and 3, not 1, 2, 1 and 3", 23, gate.most(0));
    }

    private static void promise20NoGuard() {
        StoryToll gate = Gates.full();
        for (int far : FAR) {
            Check.noIndex("20: guard " + far, gate, () -> gate.sleeps(far));
        }
        Check.noIndex("20: guard 4", gate, () -> gate.sleeps(4));
    }

    private static void promise20Awake() {
        for (int patience = 1; patience <= 20; patience++) {
            Check.due("20: patience " + patience, patience, Gates.guardWithPatience(patience).sleeps(0));
        }
    }

    private static void promise20MostPatience() {
        StoryToll gate = Gates.story(1, 1);
        for (int scene : new int[] {0, 2, 3, 2}) {
            gate.tell(0, scene, 0);
        }
        Check.due("20: patience 30", 30, gate.sleeps(0));
    }

    private static void promise20Asleep() {
        StoryToll gate = Gates.guardWithPatience(1);
        gate.watch(1);
        Check.due("20: asleep with 0", 2, gate.sleeps(0));
        gate.watch(1);
        Check.due("20: asleep with 5", 1, gate.sleeps(0));
        gate.watch(1);
        Check.due("20: awake with 10", 10, gate.sleeps(0));
    }

    private static void promise20NothingIsChanged() {
        StoryToll gate = Gates.story(2, 1);
        long before = gate.digest();
        gate.sleeps(0);
        gate.sleeps(1);
        Check.due("20: nothing is changed", before, gate.digest());
        Check.due("20: the same again", 20, gate.sleeps(0));
    }

    private static void promise21NoneWasTold() {
        Check.dueExactly("21: none", 0.0, new StoryToll().mean());
        Check.dueExactly("21: none, with all else", 0.0, Gates.story(4, 12).mean());
    }

    private static void promise21NoToll() {
        StoryToll gate = Gates.story(0, 1);
        gate.tell(0, 0, 0);
        Check.dueExactly("21: told to nobody", 0.0, gate.mean());
        gate.post();
        gate.tell(0, 1, 0);
        gate.tell(0, 0, 0);
        Check.dueExactly("21: 0 and 7 and 14", 7.0, gate.mean());
    }

    private static void promise21NotCut() {
        StoryToll gate = Gates.story(1, 1);
        gate.tell(0, 0, 0);
        gate.tell(0, 1, 0);
        gate.tell(0, 1, 0);
        Check.dueExactly("21: 14 and 7 and 2", 23.0 / 3.0, gate.mean());
    }

    /** The same sum without a bound, cut to 64 bits at the end only. */
    private static void promise22WrapsAround() {
        StoryToll gate = Gates.full();
        BigInteger d = BigInteger.valueOf(839);
        d = added(d, gate, 11, 1, (i, what) -> gate.count(what));
        d = added(d, gate, 5, 24, gate::scene);
        d = added(d, gate, 3, 4, gate::guard);
        d = added(d, gate, 5, 12, gate::traveller);
        for (int plot = 0; plot < 8; plot++) {
            int asked = plot;
            d = added(d, gate, 4, 1, (i, what) -> gate.plot(asked, what));
            d = added(d, gate, gate.plot(plot, 0), 1, (i, place) -> gate.told(asked, place));
        }
        Check.due("22: more than 64 bits", true, d.bitLength() > 64);
        Check.due("22: cut to 64 bits", d.longValue(), gate.digest());
    }

    private interface Question {
        int answer(int number, int what);
    }

    private static BigInteger added(BigInteger d, StoryToll gate, int whats, int numbers, Question question) {
        BigInteger sum = d;
        for (int number = 0; number < numbers; number++) {
            for (int what = 0; what < whats; what++) {
                sum = sum.multiply(BigInteger.valueOf(31)).add(BigInteger.valueOf(question.answer(number, what)));
            }
        }
        return sum;
    }

    /** 839 * 31^11 is 21317712116083653209, more than 64 bits hold. */
    private static void promise22Empty() {
        BigInteger d = BigInteger.valueOf(839).multiply(BigInteger.valueOf(31).pow(11));
        Check.due("22: a new gate", d.longValue(), new StoryToll().digest());
    }

    /** A reserved ending adds the traveller's number, one of nobody -1. */
    private static void promise22Nobody() {
        StoryToll gate = Gates.story(1, 2);
        gate.tell(1, 0, 0);
        Check.due("22: nobody", Gates.digestOf(gate), gate.digest());
        gate.reserve(1, 0);
        Check.due("22: reserved", Gates.digestOf(gate), gate.digest());
    }

    public static void main(String[] args) {
        promise17NoGuard();
        promise17NoScene();
        promise17NoneWasTold();
        promise17CutToNothing();
        promise17Asleep();
        promise18NoTraveller();
        promise18NoPlot();
        promise18NotOnTheWay();
        promise18KnowsNone();
        promise18NoneCanBeTold();
        promise18OnlyABeginning();
        promise18EightPlots();
        promise18EightScenes();
        promise18ReservedByAnother();
        promise18NobodyAwake();
        promise18OfSeveralTheSmallest();
        promise19NoPlot();
        promise19NotOpen();
        promise19NoPairs();
        promise19ReservedByAnother();
        promise19EightScenesAtMost();
        promise19OneScenePlace();
        promise19NotInItAlready();
        promise19NotTwice();
        promise20NoGuard();
        promise20Awake();
        promise20MostPatience();
        promise20Asleep();
        promise20NothingIsChanged();
        promise21NoneWasTold();
        promise21NoToll();
        promise21NotCut();
        promise22WrapsAround();
        promise22Empty();
        promise22Nobody();
        Check.end();
    }
}
