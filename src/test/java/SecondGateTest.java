import java.util.Random;

/** Seeded runs of up to 512 calls of the whole face: each call answers or throws as the SecondGate does. */
final class SecondGateTest {
    private static final int CALLS = 512;
    private static final int MEAN = 19;
    private static final int DIGEST = 20;
    private static final String[] NAMES = {"make", "follow", "post", "come", "tell", "reserve", "pass", "send", "watch",
        "scene", "guard", "traveller", "plot", "told", "count", "worth", "best", "most", "sleeps", "mean", "digest"};
    /** How often each call is made, in a thousand: a gate that is built up slowly, and one that is told at. */
    private static final int[] BUILDING = {70, 130, 8, 30, 260, 40, 25, 15, 60, 15, 30, 30, 30, 30, 30, 40, 60, 40, 30, 7, 20};
    private static final int[] TELLING = {4, 4, 2, 4, 430, 70, 10, 8, 100, 15, 30, 30, 40, 30, 30, 40, 60, 30, 30, 13, 20};

    private final Random random;
    private final StoryToll gate = new StoryToll();
    private final SecondGate second = new SecondGate();
    private final int[] answered = new int[NAMES.length];
    private final int[] refused = new int[NAMES.length];

    private SecondGateTest(long seed) {
        random = new Random(seed);
    }

    private interface Answer {
        Object go();
    }

    /** The number of an answer, or the name of the exception. */
    private static String answerOf(Answer answer) {
        try {
            return String.valueOf(answer.go());
        } catch (RuntimeException e) {
            return e.getClass().getSimpleName();
        }
    }

    private static Object first(StoryToll gate, int call, int a, int b, int c) {
        switch (call) {
            case 0: return gate.make(a, b, c);
            case 1: return gate.follow(a, b);
            case 2: return gate.post();
            case 3: return gate.come(a);
            case 4: return gate.tell(a, b, c);
            case 5: return gate.reserve(a, b);
            case 6: return gate.pass(a);
            case 7: return gate.send(a);
            case 8: return gate.watch(a);
            case 9: return gate.scene(a, b);
            case 10: return gate.guard(a, b);
            case 11: return gate.traveller(a, b);
            case 12: return gate.plot(a, b);
            case 13: return gate.told(a, b);
            case 14: return gate.count(a);
            case 15: return gate.worth(a, b);
            case 16: return gate.best(a, b);
            case 17: return gate.most(a);
            case 18: return gate.sleeps(a);
            case 19: return gate.mean();
            default: return gate.digest();
        }
    }

    private static Object second(SecondGate gate, int call, int a, int b, int c) {
        switch (call) {
            case 0: return gate.make(a, b, c);
            case 1: return gate.follow(a, b);
            case 2: return gate.post();
            case 3: return gate.come(a);
            case 4: return gate.tell(a, b, c);
            case 5: return gate.reserve(a, b);
            case 6: return gate.pass(a);
            case 7: return gate.send(a);
            case 8: return gate.watch(a);
            case 9: return gate.scene(a, b);
            case 10: return gate.guard(a, b);
            case 11: return gate.traveller(a, b);
            case 12: return gate.plot(a, b);
            case 13: return gate.told(a, b);
            case 14: return gate.count(a);
            case 15: return gate.worth(a, b);
            case 16: return gate.best(a, b);
            case 17: return gate.most(a);
            case 18: return gate.sleeps(a);
            case 19: return gate.mean();
            default: return gate.digest();
        }
    }

    private String make(int call, int a, int b, int c) {
        String due = answerOf(() -> second(second, call, a, b, c));
        String got = answerOf(() -> first(gate, call, a, b, c));
        if (due.endsWith("Exception")) {
            refused[call]++;
        } else {
            answered[call]++;
        }
        Check.due(NAMES[call] + "(" + a + ", " + b + ", " + c + ") answered " + got + ", due is " + due, true, due.equals(got));
        return due;
    }

    private int anyCall(int[] often) {
        int left = random.nextInt(1000);
        int call = 0;
        while (call < often.length - 1 && left >= often[call]) {
            left -= often[call];
            call++;
        }
        return call;
    }

    /** A number of one of those that there are, seldom of none. */
    private int one(int howMany) {
        int wild = random.nextInt(60);
        if (wild == 0) {
            return random.nextInt();
        }
        return wild < 4 ? random.nextInt(howMany + 4) - 2 : random.nextInt(Math.max(1, howMany));
    }

    private int from(int least, int most) {
        return least + one(most - least + 1);
    }

    private int anySet() {
        int size = Math.min(30, second.count(1) + (random.nextInt(30) == 0 ? 1 : 0));
        return random.nextInt(60) == 0 ? random.nextInt() : random.nextInt(1 << size) | random.nextInt(1 << size);
    }

    private void tell() {
        int traveller = one(second.count(5));
        int plot = one(second.count(8));
        boolean there = traveller >= 0 && traveller < second.count(5) && plot >= 0 && plot < second.count(8);
        int scene = there && random.nextInt(3) > 0 ? second.best(traveller, plot) : one(second.count(1));
        make(4, traveller, scene, plot);
    }

    private void step(int[] often) {
        int call = anyCall(often);
        switch (call) {
            case 0: make(call, from(0, 2), from(1, 20), from(0, 5)); break;
            case 1: make(call, one(second.count(1)), one(second.count(1)), 0); break;
            case 3: make(call, anySet(), 0, 0); break;
            case 4: tell(); break;
            case 5: case 16: make(call, one(second.count(5)), one(second.count(8)), 0); break;
            case 6: case 7: make(call, one(second.count(5)), 0, 0); break;
            case 8: make(call, random.nextInt(10) == 0 ? from(1, 100) : from(1, 12), 0, 0); break;
            case 9: make(call, one(second.count(1)), one(5), 0); break;
            case 10: make(call, one(second.count(3)), one(3), 0); break;
            case 11: make(call, one(second.count(5)), one(5), 0); break;
            case 12: make(call, one(second.count(8)), one(4), 0); break;
            case 13: make(call, one(second.count(8)), one(8), 0); break;
            case 14: make(call, one(11), 0, 0); break;
            case 15: make(call, one(second.count(3)), one(second.count(1)), 0); break;
            case 17: make(call, one(second.count(8)), 0, 0); break;
            case 18: make(call, one(second.count(3)), 0, 0); break;
            default: make(call, 0, 0, 0);
        }
    }

    /** Some 100 calls that fill a gate with scenes and pairs, so that plots can be told to their end. */
    private void prepare() {
        int beginnings = 2 + random.nextInt(4);
        int endings = 16 + random.nextInt(6);
        for (int i = 0; i < 24; i++) {
            make(0, i < beginnings ? 0 : i < endings ? 1 : 2, 1 + random.nextInt(20), random.nextInt(6));
        }
        int middles = beginnings + 3 + random.nextInt(endings - beginnings - 3);
        for (int i = 0; i < 66; i++) {
            int behind = random.nextInt(3) == 0 ? endings + random.nextInt(24 - endings)
                    : beginnings + random.nextInt(middles - beginnings);
            make(1, random.nextInt(middles), behind, 0);
        }
        for (int i = 0; i < 5; i++) {
            make(3, anySet(), 0, 0);
        }
        for (int i = random.nextInt(4); i > 0; i--) {
            make(2, 0, 0, 0);
        }
    }

    private int calls() {
        int calls = 0;
        for (int call = 0; call < NAMES.length; call++) {
            calls += answered[call] + refused[call];
        }
        return calls;
    }

    private void go(boolean prepared) {
        if (prepared) {
            prepare();
        }
        while (calls() < CALLS - 1) {
            step(prepared ? TELLING : BUILDING);
        }
        make(DIGEST, 0, 0, 0);
    }

    public static void main(String[] args) {
        int[] answered = new int[NAMES.length];
        int[] refused = new int[NAMES.length];
        for (long seed = 1; seed <= 200; seed++) {
            SecondGateTest run = new SecondGateTest(seed);
            run.go(seed % 2 == 0);
            for (int call = 0; call < NAMES.length; call++) {
                answered[call] += run.answered[call];
                refused[call] += run.refused[call];
            }
        }
        for (int call = 0; call < NAMES.length; call++) {
            Check.due(NAMES[call] + " is answered often", true, answered[call] >= 300);
            boolean throwsNothing = call == MEAN || call == DIGEST;
            Check.due(NAMES[call] + " is refused", !throwsNothing, refused[call] >= 40);
        }
        Check.end();
    }
}
