import java.util.ArrayList;

/** A toll gate paid in stories. */
public final class StoryToll {
    private static final int BEGINNING = 0;
    private static final int ENDING = 2;

    private static final int ON_THE_WAY = 0;
    private static final int PASSED = 1;
    private static final int SENT_AWAY = 2;

    private static final int MOST_SCENES = 24;
    private static final int MOST_PAIRS = 60;
    private static final int MOST_GUARDS = 4;
    private static final int MOST_TRAVELLERS = 12;
    private static final int MOST_PLOTS = 8;
    private static final int MOST_SCENES_OF_PLOT = 8;
    private static final int MOST_WATCHES = 100;

    private static final int TOLL_ASKED = 15;
    private static final int PRICE_OF_ENDING = 5;
    private static final int NOBODY = -1;
    private static final int NO_HUE = -1;

    private final ArrayList<Scene> scenes = new ArrayList<>();
    private final ArrayList<Guard> guards = new ArrayList<>();
    private final ArrayList<Traveller> travellers = new ArrayList<>();
    private final ArrayList<Plot> plots = new ArrayList<>();
    private int pairs;
    private int watchNow;
    private int tolls;
    private int scenesTold;
    private int hueBefore = NO_HUE;

    /** Creates a gate without guards, in the watch 0. */
    public StoryToll() {
    }

    // ---- scenes, guards, travellers

    /** Makes a scene and returns its number. */
    public int make(int kind, int wonder, int hue) throws IllegalArgumentException, IllegalStateException {
        if (kind < BEGINNING || kind > ENDING || wonder < 1 || wonder > 20 || hue < 0 || hue > 5) {
            throw new IllegalArgumentException("no such kind, wonder or hue");
        }
        int number = scenes.size();
        if (number >= MOST_SCENES) {
            throw new IllegalStateException("there are 24 scenes");
        }
        scenes.add(new Scene(number, kind, wonder, hue));
        return number;
    }

    /** Tells that a scene can follow another one, and returns how many such pairs there are. */
    public int follow(int scene, int behind)
            throws IndexOutOfBoundsException, IllegalArgumentException, IllegalStateException {
        Scene before = sceneAt(scene);
        Scene after = sceneAt(behind);
        if (before == null || after == null) {
            throw new IndexOutOfBoundsException("no such scene");
        }
        if (before.kind == ENDING || after.kind == BEGINNING || before.number == after.number) {
            throw new IllegalArgumentException("these scenes cannot follow each other");
        }
        if (before.canLeadTo(after)) {
            return pairs;
        }
        if (pairs >= MOST_PAIRS) {
            throw new IllegalStateException("there are 60 pairs");
        }
        before.followers |= after.asSet();
        pairs++;
        return pairs;
    }

    /** Returns the number of a new guard. */
    public int post() throws IllegalStateException {
        int number = guards.size();
        if (number >= MOST_GUARDS) {
            throw new IllegalStateException("there are 4 guards");
        }
        guards.add(new Guard());
        return number;
    }

    /** Returns the number of a new traveller, who knows a set of scenes. */
    public int come(int scenes) throws IllegalArgumentException, IllegalStateException {
        // There are at most 24 scenes, so that the shift stays below the 32 bits of an int.
        if (scenes < 0 || scenes >> this.scenes.size() != 0) {
            throw new IllegalArgumentException("no set of scenes that there are");
        }
        int number = travellers.size();
        if (number >= MOST_TRAVELLERS) {
            throw new IllegalStateException("there are 12 travellers");
        }
        travellers.add(new Traveller(number, scenes));
        return number;
    }

    // ---- telling

    /** A traveller tells a scene; returns the toll that is paid by it. */
    public int tell(int traveller, int scene, int plot) throws IndexOutOfBoundsException, IllegalStateException {
        Traveller teller = travellerAt(traveller);
        Scene next = sceneAt(scene);
        if (teller == null || next == null) {
            throw new IndexOutOfBoundsException("no such traveller or scene");
        }
        Plot row = plotAt(plot);
        if (next.kind != BEGINNING && row == null) {
            throw new IndexOutOfBoundsException("no such plot");
        }
        if (!canTell(teller, next, row)) {
            throw new IllegalStateException("this traveller cannot tell this scene");
        }
        if (next.kind == BEGINNING) {
            plots.add(new Plot(next));
        } else if (row != null) {
            row.tellOn(next);
        }
        int toll = tollOf(next);
        letGuardsHear(next);
        next.timesTold++;
        teller.scenesTold++;
        teller.paid += toll;
        scenesTold++;
        tolls += toll;
        return toll;
    }

    /** Reserves the ending of an open plot; returns what this traveller has paid then. */
    public int reserve(int traveller, int plot) throws IndexOutOfBoundsException, IllegalStateException {
        Traveller payer = travellerAt(traveller);
        Plot row = plotAt(plot);
        if (payer == null || row == null) {
            throw new IndexOutOfBoundsException("no such traveller or plot");
        }
        if (payer.state != ON_THE_WAY || payer.paid < PRICE_OF_ENDING || !row.isOpen() || row.holder != NOBODY) {
            throw new IllegalStateException("this traveller cannot reserve this ending");
        }
        payer.paid -= PRICE_OF_ENDING;
        row.holder = payer.number;
        return payer.paid;
    }

    /** Returns whether this traveller passes. */
    public boolean pass(int traveller) throws IndexOutOfBoundsException, IllegalStateException {
        Traveller asking = travellerAt(traveller);
        if (asking == null) {
            throw new IndexOutOfBoundsException("no such traveller");
        }
        if (asking.state != ON_THE_WAY) {
            throw new IllegalStateException("this traveller is not on the way");
        }
        if (asking.paid < TOLL_ASKED && guardsAwake() > 0) {
            return false;
        }
        asking.state = PASSED;
        return true;
    }

    /** Sends a traveller away, and returns what this one has paid. */
    public int send(int traveller) throws IndexOutOfBoundsException, IllegalStateException {
        Traveller leaving = travellerAt(traveller);
        if (leaving == null) {
            throw new IndexOutOfBoundsException("no such traveller");
        }
        if (leaving.state != ON_THE_WAY) {
            throw new IllegalStateException("this traveller is not on the way");
        }
        leaving.state = SENT_AWAY;
        for (int i = 0; i < plots.size(); i++) {
            Plot row = plots.get(i);
            if (row.holder == leaving.number) {
                row.holder = NOBODY;
            }
        }
        return leaving.paid;
    }

    /** Lets watches go by, and returns how many guards are awake then. */
    public int watch(int watches) throws IllegalArgumentException {
        if (watches < 1 || watches > MOST_WATCHES) {
            throw new IllegalArgumentException("not 1 to 100 watches");
        }
        for (int gone = 0; gone < watches; gone++) {
            for (int i = 0; i < guards.size(); i++) {
                guards.get(i).letWatchGoBy();
            }
            watchNow++;
        }
        return guardsAwake();
    }

    // ---- what is there

    /** Tells of a scene: kind, wonder, hue, scenes that can follow it, how often it was told. */
    public int scene(int scene, int what) throws IndexOutOfBoundsException {
        Scene asked = sceneAt(scene);
        if (asked == null || what < 0 || what > 4) {
            throw new IndexOutOfBoundsException("no such scene or question");
        }
        return asked.answer(what);
    }

    /** Tells of a guard: awake or not, patience, scenes heard. */
    public int guard(int guard, int what) throws IndexOutOfBoundsException {
        Guard asked = guardAt(guard);
        if (asked == null || what < 0 || what > 2) {
            throw new IndexOutOfBoundsException("no such guard or question");
        }
        return asked.answer(what);
    }

    /** Tells of a traveller: scenes known, paid, state, scenes told, endings reserved. */
    public int traveller(int traveller, int what) throws IndexOutOfBoundsException {
        Traveller asked = travellerAt(traveller);
        if (asked == null || what < 0 || what > 4) {
            throw new IndexOutOfBoundsException("no such traveller or question");
        }
        return answerOfTraveller(asked, what);
    }

    /** Tells of a plot: scenes, open or not, who reserved its ending, wonder. */
    public int plot(int plot, int what) throws IndexOutOfBoundsException {
        Plot asked = plotAt(plot);
        if (asked == null || what < 0 || what > 3) {
            throw new IndexOutOfBoundsException("no such plot or question");
        }
        return asked.answer(what);
    }

    /** Returns the scene at a place of a plot. */
    public int told(int plot, int place) throws IndexOutOfBoundsException {
        Plot asked = plotAt(plot);
        if (asked == null || place < 0 || place >= asked.length) {
            throw new IndexOutOfBoundsException("no such plot or place");
        }
        return asked.numberAt(place);
    }

    /** Tells of the gate: the watch, and how many there are of what. */
    public int count(int what) throws IndexOutOfBoundsException {
        if (what < 0 || what > 10) {
            throw new IndexOutOfBoundsException("no such question");
        }
        return answerOfGate(what);
    }

    // ---- what would be

    /** Returns the worth of a scene for a guard now. */
    public int worth(int guard, int scene) throws IndexOutOfBoundsException {
        Guard hearer = guardAt(guard);
        Scene asked = sceneAt(scene);
        if (hearer == null || asked == null) {
            throw new IndexOutOfBoundsException("no such guard or scene");
        }
        return hearer.worthOf(asked, hueBefore);
    }

    /** Returns the scene by which this traveller would pay the most toll now, -1 if there is none. */
    public int best(int traveller, int plot) throws IndexOutOfBoundsException {
        Traveller teller = travellerAt(traveller);
        Plot row = plotAt(plot);
        if (teller == null || row == null) {
            throw new IndexOutOfBoundsException("no such traveller or plot");
        }
        int bestScene = -1;
        int mostToll = -1;
        for (int i = 0; i < scenes.size(); i++) {
            Scene next = scenes.get(i);
            if (canTell(teller, next, row)) {
                int toll = tollOf(next);
                if (toll > mostToll) {
                    mostToll = toll;
                    bestScene = i;
                }
            }
        }
        return bestScene;
    }

    /** Returns the most wonder by which a plot could be told on to an ending, -1 if it cannot. */
    public int most(int plot) throws IndexOutOfBoundsException {
        Plot asked = plotAt(plot);
        if (asked == null) {
            throw new IndexOutOfBoundsException("no such plot");
        }
        if (!asked.isOpen()) {
            return 0;
        }
        return mostWonderBehind(scenes, asked.last, asked.inIt, MOST_SCENES_OF_PLOT - asked.length);
    }

    /** Returns behind how many watches this guard is asleep, or awake again; -1 if not by 100. */
    public int sleeps(int guard) throws IndexOutOfBoundsException {
        Guard asked = guardAt(guard);
        if (asked == null) {
            throw new IndexOutOfBoundsException("no such guard");
        }
        return asked.watchesTillOtherwise();
    }

    /** Returns all tolls that were paid, divided by all scenes that were told; 0 if none was. */
    public double mean() {
        if (scenesTold == 0) {
            return 0.0;
        }
        return (double) tolls / (double) scenesTold;
    }

    /** Computes a checksum of all that can be asked. */
    public long digest() {
        long d = 839;
        for (int what = 0; what <= 10; what++) {
            d = d * 31 + answerOfGate(what);
        }
        for (int i = 0; i < scenes.size(); i++) {
            for (int what = 0; what <= 4; what++) {
                d = d * 31 + scenes.get(i).answer(what);
            }
        }
        for (int i = 0; i < guards.size(); i++) {
            for (int what = 0; what <= 2; what++) {
                d = d * 31 + guards.get(i).answer(what);
            }
        }
        for (int i = 0; i < travellers.size(); i++) {
            for (int what = 0; what <= 4; what++) {
                d = d * 31 + answerOfTraveller(travellers.get(i), what);
            }
        }
        for (int i = 0; i < plots.size(); i++) {
            d = plots.get(i).addedTo(d);
        }
        return d;
    }

    private Scene sceneAt(int number) {
        return number >= 0 && number < scenes.size() ? scenes.get(number) : null;
    }

    private Guard guardAt(int number) {
        return number >= 0 && number < guards.size() ? guards.get(number) : null;
    }

    private Traveller travellerAt(int number) {
        return number >= 0 && number < travellers.size() ? travellers.get(number) : null;
    }

    private Plot plotAt(int number) {
        return number >= 0 && number < plots.size() ? plots.get(number) : null;
    }

    /** Whether this one can tell the scene: as the beginning of a new plot, or on in this row, if it is not null. */
    private boolean canTell(Traveller teller, Scene next, Plot row) {
        if (teller.state != ON_THE_WAY || !teller.knows(next)) {
            return false;
        }
        if (next.kind == BEGINNING) {
            return plots.size() < MOST_PLOTS;
        }
        return row != null && row.canGoOnWith(next, teller.number);
    }

    /** The toll that would be paid by the scene now. */
    private int tollOf(Scene next) {
        int toll = 0;
        for (int i = 0; i < guards.size(); i++) {
            Guard hearer = guards.get(i);
            if (hearer.awake) {
                toll = Math.max(toll, hearer.worthOf(next, hueBefore));
            }
        }
        return toll;
    }

    private void letGuardsHear(Scene next) {
        for (int i = 0; i < guards.size(); i++) {
            Guard hearer = guards.get(i);
            if (hearer.awake) {
                hearer.hear(next, hueBefore);
            }
        }
        hueBefore = next.hue;
    }

    private int guardsAwake() {
        int awake = 0;
        for (int i = 0; i < guards.size(); i++) {
            if (guards.get(i).awake) {
                awake++;
            }
        }
        return awake;
    }

    private int travellersInState(int state) {
        int found = 0;
        for (int i = 0; i < travellers.size(); i++) {
            if (travellers.get(i).state == state) {
                found++;
            }
        }
        return found;
    }

    private int openPlots() {
        int open = 0;
        for (int i = 0; i < plots.size(); i++) {
            if (plots.get(i).isOpen()) {
                open++;
            }
        }
        return open;
    }

    private int endingsReservedBy(int traveller) {
        int reserved = 0;
        for (int i = 0; i < plots.size(); i++) {
            if (plots.get(i).holder == traveller) {
                reserved++;
            }
        }
        return reserved;
    }

    private int answerOfGate(int what) {
        switch (what) {
            case 0: return watchNow;
            case 1: return scenes.size();
            case 2: return pairs;
            case 3: return guards.size();
            case 4: return guardsAwake();
            case 5: return travellers.size();
            case 6: return travellersInState(ON_THE_WAY);
            case 7: return travellersInState(PASSED);
            case 8: return plots.size();
            case 9: return openPlots();
            default: return tolls;
        }
    }

    private int answerOfTraveller(Traveller asked, int what) {
        switch (what) {
            case 0: return asked.known;
            case 1: return asked.paid;
            case 2: return asked.state;
            case 3: return asked.scenesTold;
            default: return endingsReservedBy(asked.number);
        }
    }

    /**
     * The most wonder of scenes outside the set used, at most room of them, that lead from last to an ending;
     * -1 if none do. Each level has one room less, so that it goes at most 8 levels deep.
     */
    private static int mostWonderBehind(ArrayList<Scene> scenes, Scene last, int used, int room) {
        if (room <= 0) {
            return -1;
        }
        int most = -1;
        int candidates = last.followers & ~used;
        for (int i = 0; i < scenes.size() && candidates >> i != 0; i++) {
            if ((candidates >> i & 1) != 0) {
                Scene next = scenes.get(i);
                int behind = next.kind == ENDING ? 0 : mostWonderBehind(scenes, next, used | next.asSet(), room - 1);
                if (behind >= 0) {
                    most = Math.max(most, next.wonder + behind);
                }
            }
        }
        return most;
    }

    private static final class Scene {
        final int number;
        final int kind;
        final int wonder;
        final int hue;
        /** The scenes that can follow this one, as a set. */
        int followers;
        int timesTold;

        Scene(int number, int kind, int wonder, int hue) {
            this.number = number;
            this.kind = kind;
            this.wonder = wonder;
            this.hue = hue;
        }

        int asSet() {
            return 1 << number;
        }

        boolean canLeadTo(Scene after) {
            return (followers & after.asSet()) != 0;
        }

        int answer(int what) {
            switch (what) {
                case 0: return kind;
                case 1: return wonder;
                case 2: return hue;
                case 3: return Integer.bitCount(followers);
                default: return timesTold;
            }
        }
    }

    private static final class Guard {
        private static final int FIRST_PATIENCE = 20;
        private static final int MOST_PATIENCE = 30;
        private static final int PATIENCE_TO_WAKE = 10;
        private static final int PLEASING_WORTH = 4;
        private static final int MOST_WATCHES_AHEAD = 100;

        private final int[] heard = new int[MOST_SCENES];
        private int scenesHeard;
        private int patience = FIRST_PATIENCE;
        boolean awake = true;

        int worthOf(Scene scene, int hueBefore) {
            int hearings = 1 + timesHeard(scene.number);
            int share = hearings > 0 ? scene.wonder / hearings : 0;
            return scene.hue != hueBefore ? share + 2 : share;
        }

        void hear(Scene scene, int hueBefore) {
            boolean pleased = worthOf(scene, hueBefore) >= PLEASING_WORTH;
            patience = pleased ? Math.min(MOST_PATIENCE, patience + 3) : Math.max(0, patience - 4);
            awake = patience > 0;
            if (scene.number >= 0 && scene.number < heard.length) {
                heard[scene.number]++;
            }
            scenesHeard++;
        }

        void letWatchGoBy() {
            patience = patienceBehindWatch(awake, patience);
            awake = isAwakeBehindWatch(awake, patience);
        }

        int watchesTillOtherwise() {
            int patienceThen = patience;
            for (int watches = 1; watches <= MOST_WATCHES_AHEAD; watches++) {
                patienceThen = patienceBehindWatch(awake, patienceThen);
                if (isAwakeBehindWatch(awake, patienceThen) != awake) {
                    return watches;
                }
            }
            return -1;
        }

        int answer(int what) {
            switch (what) {
                case 0: return awake ? 1 : 0;
                case 1: return patience;
                default: return scenesHeard;
            }
        }

        private int timesHeard(int scene) {
            return scene >= 0 && scene < heard.length ? heard[scene] : 0;
        }

        private static int patienceBehindWatch(boolean awake, int patience) {
            return awake ? Math.max(0, patience - 1) : Math.min(MOST_PATIENCE, patience + 5);
        }

        private static boolean isAwakeBehindWatch(boolean wasAwake, int patience) {
            return wasAwake ? patience > 0 : patience >= PATIENCE_TO_WAKE;
        }
    }

    private static final class Traveller {
        final int number;
        /** The scenes that this one knows, as a set. */
        final int known;
        int paid;
        int state = ON_THE_WAY;
        int scenesTold;

        Traveller(int number, int known) {
            this.number = number;
            this.known = known;
        }

        boolean knows(Scene scene) {
            return (known & scene.asSet()) != 0;
        }
    }

    private static final class Plot {
        private final int[] row = new int[MOST_SCENES_OF_PLOT];
        private int wonder;
        int length;
        Scene last;
        /** The scenes that are in it, as a set. */
        int inIt;
        /** The number of the traveller who reserved its ending. */
        int holder = NOBODY;

        Plot(Scene beginning) {
            tellOn(beginning);
        }

        void tellOn(Scene next) {
            if (length >= 0 && length < row.length) {
                row[length] = next.number;
                length++;
                wonder += next.wonder;
                inIt |= next.asSet();
                last = next;
            }
        }

        boolean isOpen() {
            return last.kind != ENDING;
        }

        boolean canGoOnWith(Scene next, int teller) {
            if (!isOpen() || length >= row.length || !last.canLeadTo(next)) {
                return false;
            }
            return next.kind != ENDING || holder == NOBODY || holder == teller;
        }

        int numberAt(int place) {
            return place >= 0 && place < row.length ? row[place] : -1;
        }

        int answer(int what) {
            switch (what) {
                case 0: return length;
                case 1: return isOpen() ? 1 : 0;
                case 2: return holder;
                default: return wonder;
            }
        }

        /** The checksum d, with what this plot tells and its scenes behind it. */
        long addedTo(long d) {
            long sum = d;
            for (int what = 0; what <= 3; what++) {
                sum = sum * 31 + answer(what);
            }
            for (int place = 0; place < length; place++) {
                sum = sum * 31 + numberAt(place);
            }
            return sum;
        }
    }
}
