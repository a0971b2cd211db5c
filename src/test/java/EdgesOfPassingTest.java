/** The boundary cases of promises 7 to 10, and of the terms that hold for them: a test for each. */
final class EdgesOfPassingTest {
    private static final int[] FAR = {Integer.MIN_VALUE, -1, Integer.MAX_VALUE};

    private EdgesOfPassingTest() {
    }

    /**
     * A gate with one guard, where the traveller 0 has paid 4, 1 has paid 5, 2 has paid 14 and 3 has paid 15, each by
     * the plot with this one's number.
     */
    private static StoryToll paid4And5And14And15() {
        StoryToll gate = new StoryToll();
        int[] wonders = {2, 3, 12, 13};
        for (int i = 0; i < wonders.length; i++) {
            gate.make(0, wonders[i], i);
        }
        gate.post();
        for (int i = 0; i < wonders.length; i++) {
            gate.come(15);
            gate.tell(i, i, 0);
        }
        return gate;
    }

    private static void promise7NoTraveller() {
        StoryToll gate = Gates.full();
        for (int far : FAR) {
            Check.noIndex("7: traveller " + far, gate, () -> gate.reserve(far, 0));
        }
        Check.noIndex("7: traveller 12", gate, () -> gate.reserve(12, 0));
    }

    private static void promise7NoPlot() {
        StoryToll gate = Gates.full();
        for (int far : FAR) {
            Check.noIndex("7: plot " + far, gate, () -> gate.reserve(0, far));
        }
        Check.noIndex("7: plot 8", gate, () -> gate.reserve(0, 8));
        StoryToll empty = Gates.story(1, 1);
        Check.noIndex("7: no plot at all", empty, () -> empty.reserve(0, 0));
    }

    private static void promise7IndexGoesFirst() {
        StoryToll gate = Gates.story(1, 1);
        Check.noIndex("7: no plot, has paid nothing", gate, () -> gate.reserve(0, 0));
        gate.send(0);
        Check.noIndex("7: no plot, sent away", gate, () -> gate.reserve(0, 0));
    }

    private static void promise7PaidFour() {
        StoryToll gate = paid4And5And14And15();
        Check.due("7: paid", 4, gate.traveller(0, 1));
        Check.noState("7: paid 4", gate, () -> gate.reserve(0, 0));
    }

    private static void promise7PaidFive() {
        StoryToll gate = paid4And5And14And15();
        Check.due("7: paid then", 0, gate.reserve(1, 0));
        Check.due("7: paid then", 0, gate.traveller(1, 1));
        Check.noState("7: paid 0", gate, () -> gate.reserve(1, 1));
    }

    private static void promise7PaidNothing() {
        StoryToll gate = Gates.story(0, 1);
        gate.tell(0, 0, 0);
        Check.noState("7: told, and paid 0", gate, () -> gate.reserve(0, 0));
    }

    private static void promise7NotOnTheWay() {
        StoryToll gate = paid4And5And14And15();
        gate.pass(3);
        gate.send(2);
        Check.noState("7: passed", gate, () -> gate.reserve(3, 0));
        Check.noState("7: sent away", gate, () -> gate.reserve(2, 0));
    }

    private static void promise7NotOpen() {
        StoryToll gate = Gates.story(1, 1);
        gate.tell(0, 1, 0);
        gate.tell(0, 6, 0);
        Check.noState("7: not open", gate, () -> gate.reserve(0, 0));
    }

    private static void promise7ReservedByThisOne() {
        StoryToll gate = paid4And5And14And15();
        gate.reserve(3, 0);
        Check.noState("7: reserved by this one", gate, () -> gate.reserve(3, 0));
    }

    private static void promise7ReservedByAnother() {
        StoryToll gate = paid4And5And14And15();
        gate.reserve(3, 0);
        Check.noState("7: reserved by another one", gate, () -> gate.reserve(2, 0));
        Check.due("7: by the traveller", 3, gate.plot(0, 2));
    }

    private static void promise7ReservedByOneWhoPassed() {
        StoryToll gate = paid4And5And14And15();
        gate.reserve(3, 0);
        gate.watch(30);
        gate.pass(3);
        Check.due("7: passed", 1, gate.traveller(3, 2));
        Check.noState("7: reserved by one who passed", gate, () -> gate.reserve(2, 0));
    }

    private static void promise7ReservedByOneWhoWasSent() {
        StoryToll gate = paid4And5And14And15();
        gate.reserve(3, 0);
        gate.send(3);
        Check.due("7: free again", 9, gate.reserve(2, 0));
        Check.due("7: by the traveller", 2, gate.plot(0, 2));
    }

    private static void promise7OpenWithEightScenes() {
        StoryToll gate = Gates.story(1, 1);
        for (int scene : new int[] {0, 2, 3, 2, 3, 2, 3, 2}) {
            gate.tell(0, scene, 0);
        }
        int paid = gate.traveller(0, 1);
        Check.due("7: open, with eight scenes", paid - 5, gate.reserve(0, 0));
    }

    private static void promise7ManyPlots() {
        StoryToll gate = paid4And5And14And15();
        Check.due("7: the first", 10, gate.reserve(3, 0));
        Check.due("7: the second", 5, gate.reserve(3, 1));
        Check.due("7: the third", 0, gate.reserve(3, 2));
        Check.noState("7: a fourth", gate, () -> gate.reserve(3, 3));
        Check.due("7: endings", 3, gate.traveller(3, 4));
    }

    private static void promise8NoTraveller() {
        StoryToll gate = Gates.full();
        for (int far : FAR) {
            Check.noIndex("8: traveller " + far, gate, () -> gate.pass(far));
        }
        Check.noIndex("8: traveller 12", gate, () -> gate.pass(12));
        StoryToll empty = Gates.story(1, 0);
        Check.noIndex("8: no traveller at all", empty, () -> empty.pass(0));
    }

    private static void promise8NotOnTheWay() {
        StoryToll gate = Gates.story(0, 2);
        gate.pass(0);
        gate.send(1);
        Check.noState("8: passed", gate, () -> gate.pass(0));
        Check.noState("8: sent away", gate, () -> gate.pass(1));
    }

    private static void promise8Fourteen() {
        StoryToll gate = paid4And5And14And15();
        long before = gate.digest();
        Check.due("8: paid", 14, gate.traveller(2, 1));
        Check.due("8: passes with 14", false, gate.pass(2));
        Check.due("8: who does not pass changes nothing", before, gate.digest());
    }

    private static void promise8Fifteen() {
        StoryToll gate = paid4And5And14And15();
        Check.due("8: paid", 15, gate.traveller(3, 1));
        Check.due("8: passes with 15", true, gate.pass(3));
        Check.due("8: paid stays", 15, gate.traveller(3, 1));
        Check.due("8: passed", 1, gate.traveller(3, 2));
    }

    private static void promise8LessWhatWasGiven() {
        StoryToll gate = paid4And5And14And15();
        gate.reserve(3, 3);
        Check.due("8: 15 less 5", false, gate.pass(3));
        gate.tell(3, 1, 0);
        Check.due("8: 10 and 3 / 2 and 2", 13, gate.traveller(3, 1));
        Check.due("8: passes with 13", false, gate.pass(3));
        gate.tell(3, 0, 0);
        Check.due("8: 13 and 2 / 2 and 2", 16, gate.traveller(3, 1));
        Check.due("8: passes with 16", true, gate.pass(3));
    }

    private static void promise8NoGuard() {
        StoryToll gate = Gates.story(0, 1);
        Check.due("8: there is no guard", true, gate.pass(0));
    }

    private static void promise8AllAsleep() {
        StoryToll gate = Gates.story(4, 1);
        gate.watch(19);
        Check.due("8: all awake with 1", false, gate.pass(0));
        gate.watch(1);
        Check.due("8: all asleep", true, gate.pass(0));
    }

    private static void promise8OneAwake() {
        StoryToll gate = Gates.story(3, 1);
        gate.watch(1);
        gate.post();
        gate.watch(19);
        Check.due("8: awake", 1, gate.count(4));
        Check.due("8: the last one is awake", false, gate.pass(0));
        gate.watch(1);
        Check.due("8: asleep, or with 5", true, gate.pass(0));
    }

    private static void promise8AwakeAgain() {
        StoryToll gate = Gates.story(1, 2);
        gate.watch(21);
        Check.due("8: asleep with 5", true, gate.pass(0));
        gate.watch(1);
        Check.due("8: awake again", false, gate.pass(1));
    }

    private static void promise9NoTraveller() {
        StoryToll gate = Gates.full();
        for (int far : FAR) {
            Check.noIndex("9: traveller " + far, gate, () -> gate.send(far));
        }
        Check.noIndex("9: traveller 12", gate, () -> gate.send(12));
        StoryToll empty = Gates.story(1, 0);
        Check.noIndex("9: no traveller at all", empty, () -> empty.send(0));
    }

    private static void promise9NotOnTheWay() {
        StoryToll gate = Gates.story(0, 2);
        gate.pass(0);
        gate.send(1);
        Check.noState("9: passed", gate, () -> gate.send(0));
        Check.noState("9: sent away", gate, () -> gate.send(1));
    }

    private static void promise9PaidNothing() {
        StoryToll gate = Gates.story(1, 1);
        Check.due("9: paid nothing", 0, gate.send(0));
        Check.due("9: sent away", 2, gate.traveller(0, 2));
    }

    private static void promise9ReservedNothing() {
        StoryToll gate = paid4And5And14And15();
        gate.reserve(3, 0);
        Check.due("9: paid", 14, gate.send(2));
        Check.due("9: another one's stays", 3, gate.plot(0, 2));
    }

    private static void promise9AllOfThisOne() {
        StoryToll gate = paid4And5And14And15();
        gate.reserve(3, 0);
        gate.reserve(2, 1);
        gate.reserve(3, 2);
        gate.reserve(2, 3);
        Check.due("9: what is given does not come back", 5, gate.send(3));
        Check.due("9: free", -1, gate.plot(0, 2));
        Check.due("9: another one's", 2, gate.plot(1, 2));
        Check.due("9: free", -1, gate.plot(2, 2));
        Check.due("9: another one's", 2, gate.plot(3, 2));
        Check.due("9: endings", 0, gate.traveller(3, 4));
        Check.due("9: endings of another one", 2, gate.traveller(2, 4));
    }

    /** The document excepts no ending: one that is told already is free, too. */
    private static void promise9ToldEnding() {
        StoryToll gate = Gates.story(1, 1);
        gate.tell(0, 1, 0);
        gate.reserve(0, 0);
        gate.tell(0, 6, 0);
        Check.due("9: reserved, once it is told", 0, gate.plot(0, 2));
        gate.send(0);
        Check.due("9: free", -1, gate.plot(0, 2));
        Check.due("9: no endings", 0, gate.traveller(0, 4));
        Check.due("9: told all the same", 0, gate.plot(0, 1));
    }

    private static void promise10TooFew() {
        StoryToll gate = Gates.story(1, 0);
        Check.noArgument("10: 0", gate, () -> gate.watch(0));
        Check.noArgument("10: -1", gate, () -> gate.watch(-1));
        Check.noArgument("10: the least", gate, () -> gate.watch(Integer.MIN_VALUE));
    }

    private static void promise10TooMany() {
        StoryToll gate = Gates.story(1, 0);
        Check.noArgument("10: 101", gate, () -> gate.watch(101));
        Check.noArgument("10: the greatest", gate, () -> gate.watch(Integer.MAX_VALUE));
    }

    private static void promise10One() {
        StoryToll gate = Gates.story(1, 0);
        Check.due("10: 1", 1, gate.watch(1));
        Check.due("10: the watch", 1, gate.count(0));
        Check.due("10: patience", 19, gate.guard(0, 1));
    }

    /** Asleep behind 20 watches, then 12 from one sleep to the next: behind 100 awake for 6 watches, from 10. */
    private static void promise10AHundred() {
        StoryToll gate = Gates.story(1, 0);
        Check.due("10: 100", 1, gate.watch(100));
        Check.due("10: the watch", 100, gate.count(0));
        Check.due("10: patience", 4, gate.guard(0, 1));
    }

    private static void promise10WithoutGuards() {
        StoryToll gate = new StoryToll();
        Check.due("10: nobody", 0, gate.watch(1));
        Check.due("10: nobody", 0, gate.watch(100));
        Check.due("10: the watch", 101, gate.count(0));
    }

    private static void promise10FallsAsleepWithZero() {
        StoryToll gate = Gates.guardWithPatience(2);
        Check.due("10: awake with 1", 1, gate.watch(1));
        Check.due("10: asleep with 0", 0, gate.watch(1));
        Check.due("10: patience", 0, gate.guard(0, 1));
    }

    private static void promise10WakesWithTen() {
        StoryToll gate = Gates.guardWithPatience(1);
        gate.watch(1);
        Check.due("10: asleep with 5", 0, gate.watch(1));
        Check.due("10: patience", 5, gate.guard(0, 1));
        Check.due("10: awake with 10", 1, gate.watch(1));
        Check.due("10: none is lost in the watch that wakes", 10, gate.guard(0, 1));
        Check.due("10: awake with 9", 1, gate.watch(1));
        Check.due("10: patience", 9, gate.guard(0, 1));
    }

    /** An object is used for at most 512 calls. */
    private static void promise10InAllCalls() {
        StoryToll gate = new StoryToll();
        for (int i = 0; i < 511; i++) {
            gate.watch(100);
        }
        Check.due("10: the watch", 51100, gate.count(0));
    }

    public static void main(String[] args) {
        promise7NoTraveller();
        promise7NoPlot();
        promise7IndexGoesFirst();
        promise7PaidFour();
        promise7PaidFive();
        promise7PaidNothing();
        promise7NotOnTheWay();
        promise7NotOpen();
        promise7ReservedByThisOne();
        promise7ReservedByAnother();
        promise7ReservedByOneWhoPassed();
        promise7ReservedByOneWhoWasSent();
        promise7OpenWithEightScenes();
        promise7ManyPlots();
        promise8NoTraveller();
        promise8NotOnTheWay();
        promise8Fourteen();
        promise8Fifteen();
        promise8LessWhatWasGiven();
        promise8NoGuard();
        promise8AllAsleep();
        promise8OneAwake();
        promise8AwakeAgain();
        promise9NoTraveller();
        promise9NotOnTheWay();
        promise9PaidNothing();
        promise9ReservedNothing();
        promise9AllOfThisOne();
        promise9ToldEnding();
        promise10TooFew();
        promise10TooMany();
        promise10One();
        promise10AHundred();
        promise10WithoutGuards();
        promise10FallsAsleepWithZero();
        promise10WakesWithTen();
        promise10InAllCalls();
        Check.end();
    }
}
