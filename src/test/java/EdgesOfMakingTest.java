/** The boundary cases of promises 1 to 5, and of the terms that hold for them: a test for each. */
final class EdgesOfMakingTest {
    private EdgesOfMakingTest() {
    }

    private static void promise1WithoutGuards() {
        StoryToll gate = new StoryToll();
        Check.due("1: guards", 0, gate.count(3));
        Check.due("1: guards awake", 0, gate.count(4));
        Check.noIndex("1: the guard 0", gate, () -> gate.guard(0, 0));
        Check.noIndex("1: sleeps of the guard 0", gate, () -> gate.sleeps(0));
    }

    private static void promise1Watch0() {
        Check.due("1: the watch", 0, new StoryToll().count(0));
    }

    private static void promise1Empty() {
        StoryToll gate = new StoryToll();
        Check.noIndex("1: follow", gate, () -> gate.follow(0, 1));
        Check.noIndex("1: tell", gate, () -> gate.tell(0, 0, 0));
        Check.noIndex("1: reserve", gate, () -> gate.reserve(0, 0));
        Check.noIndex("1: pass", gate, () -> gate.pass(0));
        Check.noIndex("1: send", gate, () -> gate.send(0));
        Check.noIndex("1: told", gate, () -> gate.told(0, 0));
        Check.noIndex("1: worth", gate, () -> gate.worth(0, 0));
        Check.noIndex("1: best", gate, () -> gate.best(0, 0));
        Check.noIndex("1: most", gate, () -> gate.most(0));
        Check.dueExactly("1: mean", 0.0, gate.mean());
    }

    private static void promise2Kind() {
        StoryToll gate = new StoryToll();
        Check.noArgument("2: kind -1", gate, () -> gate.make(-1, 10, 3));
        Check.noArgument("2: kind 3", gate, () -> gate.make(3, 10, 3));
        Check.noArgument("2: least kind", gate, () -> gate.make(Integer.MIN_VALUE, 10, 3));
        Check.noArgument("2: greatest kind", gate, () -> gate.make(Integer.MAX_VALUE, 10, 3));
        for (int kind = 0; kind <= 2; kind++) {
            Check.due("2: kind " + kind, kind, gate.make(kind, 10, 3));
            Check.due("2: its kind", kind, gate.scene(kind, 0));
        }
    }

    private static void promise2Wonder() {
        StoryToll gate = new StoryToll();
        Check.noArgument("2: wonder 0", gate, () -> gate.make(1, 0, 3));
        Check.noArgument("2: wonder 21", gate, () -> gate.make(1, 21, 3));
        Check.noArgument("2: least wonder", gate, () -> gate.make(1, Integer.MIN_VALUE, 3));
        Check.noArgument("2: greatest wonder", gate, () -> gate.make(1, Integer.MAX_VALUE, 3));
        Check.due("2: wonder 1", 0, gate.make(1, 1, 3));
        Check.due("2: wonder 20", 1, gate.make(1, 20, 3));
        Check.due("2: its wonder", 1, gate.scene(0, 1));
        Check.due("2: its wonder", 20, gate.scene(1, 1));
    }

    private static void promise2Hue() {
        StoryToll gate = new StoryToll();
        Check.noArgument("2: hue -1", gate, () -> gate.make(1, 10, -1));
        Check.noArgument("2: hue 6", gate, () -> gate.make(1, 10, 6));
        Check.noArgument("2: least hue", gate, () -> gate.make(1, 10, Integer.MIN_VALUE));
        Check.noArgument("2: greatest hue", gate, () -> gate.make(1, 10, Integer.MAX_VALUE));
        Check.due("2: hue 0", 0, gate.make(1, 10, 0));
        Check.due("2: hue 5", 1, gate.make(1, 10, 5));
        Check.due("2: its hue", 0, gate.scene(0, 2));
        Check.due("2: its hue", 5, gate.scene(1, 2));
    }

    private static void promise2TwentyFour() {
        StoryToll gate = new StoryToll();
        for (int number = 0; number < 23; number++) {
            gate.make(0, 1, 0);
        }
        Check.due("2: the 24th", 23, gate.make(2, 20, 5));
        Check.noState("2: a 25th", gate, () -> gate.make(2, 20, 5));
        Check.due("2: scenes", 24, gate.count(1));
        Check.due("2: the last stays", 20, gate.scene(23, 1));
    }

    private static void promise2ArgumentGoesFirst() {
        StoryToll gate = Gates.full();
        Check.noArgument("2: full, kind", gate, () -> gate.make(3, 1, 0));
        Check.noArgument("2: full, wonder", gate, () -> gate.make(0, 0, 0));
        Check.noArgument("2: full, hue", gate, () -> gate.make(0, 1, 6));
        Check.noState("2: full", gate, () -> gate.make(0, 1, 0));
    }

    private static void promise3NoScene() {
        StoryToll gate = Gates.story();
        Check.noIndex("3: scene -1", gate, () -> gate.follow(-1, 2));
        Check.noIndex("3: scene 7", gate, () -> gate.follow(7, 2));
        Check.noIndex("3: behind -1", gate, () -> gate.follow(0, -1));
        Check.noIndex("3: behind 7", gate, () -> gate.follow(0, 7));
        Check.due("3: the last scene", 8, gate.follow(0, 6));
    }

    private static void promise3Ending() {
        StoryToll gate = Gates.story();
        Check.noArgument("3: behind an ending, a middle", gate, () -> gate.follow(5, 2));
        Check.noArgument("3: behind an ending, an ending", gate, () -> gate.follow(5, 6));
    }

    private static void promise3Beginning() {
        StoryToll gate = Gates.story();
        Check.noArgument("3: a beginning behind a beginning", gate, () -> gate.follow(0, 1));
        Check.noArgument("3: a beginning behind a middle", gate, () -> gate.follow(2, 0));
        Check.noArgument("3: a beginning behind an ending", gate, () -> gate.follow(5, 0));
    }

    private static void promise3TheSame() {
        StoryToll gate = Gates.story();
        Check.noArgument("3: a middle behind itself", gate, () -> gate.follow(2, 2));
        Check.noArgument("3: a beginning behind itself", gate, () -> gate.follow(0, 0));
        Check.noArgument("3: an ending behind itself", gate, () -> gate.follow(6, 6));
    }

    private static void promise3ThereAlready() {
        StoryToll gate = Gates.story();
        long before = gate.digest();
        Check.due("3: there already", 7, gate.follow(0, 2));
        Check.due("3: there already", 7, gate.follow(1, 6));
        Check.due("3: nothing is told again", before, gate.digest());
        Check.due("3: the other way is another pair", 8, gate.follow(4, 2));
    }

    private static void promise3SixtyPairs() {
        StoryToll gate = Gates.full();
        Check.due("3: pairs", 60, gate.count(2));
        Check.noState("3: a 61st", gate, () -> gate.follow(0, 19));
        Check.due("3: there already", 60, gate.follow(0, 4));
        Check.due("3: pairs", 60, gate.count(2));
    }

    private static void promise3TheSixtieth() {
        StoryToll gate = new StoryToll();
        for (int i = 0; i < 24; i++) {
            gate.make(1, 1, 0);
        }
        for (int pair = 0; pair < 59; pair++) {
            gate.follow(pair / 23, pair % 23 < pair / 23 ? pair % 23 : pair % 23 + 1);
        }
        Check.due("3: the 60th", 60, gate.follow(23, 22));
        Check.due("3: scenes that can follow", 1, gate.scene(23, 3));
        Check.noState("3: a 61st", gate, () -> gate.follow(22, 23));
    }

    private static void promise3FirstNamedIsThrown() {
        StoryToll gate = Gates.full();
        Check.noIndex("3: no scene, behind an ending", gate, () -> gate.follow(20, 24));
        Check.noIndex("3: no scene, ahead of a beginning", gate, () -> gate.follow(24, 0));
        Check.noIndex("3: no scene, both the same", gate, () -> gate.follow(24, 24));
        Check.noIndex("3: no scene, both the same", gate, () -> gate.follow(-1, -1));
        Check.noArgument("3: an ending, and there are 60", gate, () -> gate.follow(20, 4));
        Check.noArgument("3: a beginning, and there are 60", gate, () -> gate.follow(4, 0));
        Check.noArgument("3: the same, and there are 60", gate, () -> gate.follow(4, 4));
    }

    private static void promise4FirstPatience() {
        StoryToll gate = new StoryToll();
        gate.post();
        Check.due("4: awake at first", 1, gate.guard(0, 0));
        Check.due("4: patience at first", 20, gate.guard(0, 1));
        Check.due("4: heard nothing", 0, gate.guard(0, 2));
    }

    private static void promise4FourGuards() {
        StoryToll gate = new StoryToll();
        for (int number = 0; number < 3; number++) {
            gate.post();
        }
        Check.due("4: the 4th", 3, gate.post());
        Check.noState("4: a 5th", gate, () -> gate.post());
        gate.watch(20);
        Check.noState("4: a 5th, all asleep", gate, () -> gate.post());
        Check.due("4: guards", 4, gate.count(3));
    }

    private static void promise5LessThanZero() {
        StoryToll gate = Gates.full();
        StoryToll one = new StoryToll();
        one.make(0, 1, 0);
        Check.noArgument("5: -1", one, () -> one.come(-1));
        Check.noArgument("5: the least", one, () -> one.come(Integer.MIN_VALUE));
        Check.noArgument("5: the bit 31 and a scene", one, () -> one.come(Integer.MIN_VALUE | 1));
        Check.noArgument("5: -1, full", gate, () -> gate.come(-1));
    }

    private static void promise5NoSuchScene() {
        StoryToll gate = new StoryToll();
        for (int scenes = 0; scenes <= 24; scenes++) {
            int all = (1 << scenes) - 1;
            int more = 1 << scenes;
            Check.noArgument("5: one more than " + scenes, gate, () -> gate.come(more));
            Check.noArgument("5: one more than " + scenes + ", and all", gate, () -> gate.come(more | all));
            Check.noArgument("5: the bit 30", gate, () -> gate.come(1 << 30));
            Check.noArgument("5: the greatest", gate, () -> gate.come(Integer.MAX_VALUE));
            if (scenes % 4 == 0) {
                Check.due("5: all of " + scenes, scenes / 4, gate.come(all));
                Check.due("5: the set", all, gate.traveller(scenes / 4, 0));
            }
            if (scenes < 24) {
                gate.make(0, 1, 0);
            }
        }
    }

    private static void promise5NoScenes() {
        StoryToll gate = new StoryToll();
        Check.due("5: who knows none", 0, gate.come(0));
        Check.due("5: the set", 0, gate.traveller(0, 0));
    }

    private static void promise5TwelveTravellers() {
        StoryToll gate = new StoryToll();
        for (int number = 0; number < 11; number++) {
            gate.come(0);
        }
        Check.due("5: the 12th", 11, gate.come(0));
        Check.noState("5: a 13th", gate, () -> gate.come(0));
        gate.pass(0);
        gate.send(1);
        Check.noState("5: a 13th, with ten on the way", gate, () -> gate.come(0));
        Check.due("5: travellers", 12, gate.count(5));
    }

    private static void promise5ArgumentGoesFirst() {
        StoryToll gate = Gates.full();
        Check.noArgument("5: full, -1", gate, () -> gate.come(-1));
        Check.noArgument("5: full, the scene 24", gate, () -> gate.come(1 << 24));
        Check.noState("5: full", gate, () -> gate.come(0));
    }

    /** A scene made later is not known by who came ahead of it. */
    private static void promise5MadeLater() {
        StoryToll gate = new StoryToll();
        gate.come(0);
        gate.make(0, 1, 0);
        Check.noState("5: made later", gate, () -> gate.tell(0, 0, 0));
    }

    public static void main(String[] args) {
        promise1WithoutGuards();
        promise1Watch0();
        promise1Empty();
        promise2Kind();
        promise2Wonder();
        promise2Hue();
        promise2TwentyFour();
        promise2ArgumentGoesFirst();
        promise3NoScene();
        promise3Ending();
        promise3Beginning();
        promise3TheSame();
        promise3ThereAlready();
        promise3SixtyPairs();
        promise3TheSixtieth();
        promise3FirstNamedIsThrown();
        promise4FirstPatience();
        promise4FourGuards();
        promise5LessThanZero();
        promise5NoSuchScene();
        promise5NoScenes();
        promise5TwelveTravellers();
        promise5ArgumentGoesFirst();
        promise5MadeLater();
        Check.end();
    }
}
