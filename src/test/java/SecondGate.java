import java.util.ArrayList;
import java.util.HashMap;
import java.util.HashSet;
import java.util.List;
import java.util.Map;
import java.util.Set;

/**
 * The document written down a second time, in another way than the class: little is kept but a log of the scenes told,
 * and what is asked is worked out anew from it. Slow, and with the whole Java library.
 */
final class SecondGate {
    private record Scene(int kind, int wonder, int hue) {
    }

    private record Pair(int scene, int behind) {
    }

    private record Telling(int traveller, int scene, int plot, int toll, Set<Integer> hearers) {
    }

    private final List<Scene> scenes = new ArrayList<>();
    private final Set<Pair> pairs = new HashSet<>();
    private final List<Integer> patience = new ArrayList<>();
    private final Set<Integer> asleep = new HashSet<>();
    private final List<Integer> known = new ArrayList<>();
    private final Set<Integer> passed = new HashSet<>();
    private final Set<Integer> sent = new HashSet<>();
    private final List<Telling> log = new ArrayList<>();
    /** How often each traveller gave 5 for an ending. */
    private final Map<Integer, Integer> given = new HashMap<>();
    /** Who reserved the ending of which plot. */
    private final Map<Integer, Integer> holders = new HashMap<>();
    private int now = 0;

    // ---- scenes, guards, travellers

    int make(int kind, int wonder, int hue) {
        argument(within(kind, 0, 2) && within(wonder, 1, 20) && within(hue, 0, 5));
        state(scenes.size() < 24);
        scenes.add(new Scene(kind, wonder, hue));
        return scenes.size() - 1;
    }

    int follow(int scene, int behind) {
        index(isScene(scene) && isScene(behind));
        argument(!isEnding(scene) && !isBeginning(behind) && scene != behind);
        Pair pair = new Pair(scene, behind);
        state(pairs.contains(pair) || pairs.size() < 60);
        pairs.add(pair);
        return pairs.size();
    }

    int post() {
        state(patience.size() < 4);
        patience.add(20);
        return patience.size() - 1;
    }

    int come(int set) {
        argument(set >= 0);
        for (int scene = 0; scene < 32; scene++) {
            argument(!has(set, scene) || isScene(scene));
        }
        state(known.size() < 12);
        known.add(set);
        return known.size() - 1;
    }

    // ---- telling

    int tell(int traveller, int scene, int plot) {
        index(isTraveller(traveller) && isScene(scene));
        index(isBeginning(scene) || isPlot(plot));
        state(isOnTheWay(traveller));
        state(has(known.get(traveller), scene));
        state(isBeginning(scene) ? plots() < 8 : canBeToldOn(traveller, scene, plot));
        Set<Integer> hearers = guardsAwake();
        int toll = 0;
        Map<Integer, Integer> worths = new HashMap<>();
        for (int guard : hearers) {
            worths.put(guard, worth(guard, scene));
            toll = Math.max(toll, worth(guard, scene));
        }
        log.add(new Telling(traveller, scene, isBeginning(scene) ? plots() : plot, toll, hearers));
        worths.forEach((guard, worth) -> setPatience(guard, patience.get(guard) + (worth >= 4 ? 3 : -4)));
        hearers.stream().filter(guard -> patience.get(guard) == 0).forEach(asleep::add);
        return toll;
    }

    int reserve(int traveller, int plot) {
        index(isTraveller(traveller) && isPlot(plot));
        state(isOnTheWay(traveller) && paid(traveller) >= 5 && isOpen(plot) && !holders.containsKey(plot));
        given.merge(traveller, 1, Integer::sum);
        holders.put(plot, traveller);
        return paid(traveller);
    }

    boolean pass(int traveller) {
        index(isTraveller(traveller));
        state(isOnTheWay(traveller));
        boolean passes = paid(traveller) >= 15 || guardsAwake().isEmpty();
        if (passes) {
            passed.add(traveller);
        }
        return passes;
    }

    int send(int traveller) {
        index(isTraveller(traveller));
        state(isOnTheWay(traveller));
        sent.add(traveller);
        holders.values().removeIf(holder -> holder == traveller);
        return paid(traveller);
    }

    int watch(int watches) {
        argument(within(watches, 1, 100));
        for (int i = 0; i < watches; i++) {
            for (int guard = 0; guard < patience.size(); guard++) {
                letWatchGoBy(guard);
            }
            now++;
        }
        return guardsAwake().size();
    }

    // ---- what is there

    int scene(int scene, int what) {
        index(isScene(scene) && within(what, 0, 4));
        Scene asked = scenes.get(scene);
        return List.of(asked.kind(), asked.wonder(), asked.hue(),
                (int) pairs.stream().filter(pair -> pair.scene() == scene).count(),
                (int) log.stream().filter(telling -> telling.scene() == scene).count()).get(what);
    }

    int guard(int guard, int what) {
        index(isGuard(guard) && within(what, 0, 2));
        return List.of(asleep.contains(guard) ? 0 : 1, patience.get(guard),
                (int) log.stream().filter(telling -> telling.hearers().contains(guard)).count()).get(what);
    }

    int traveller(int traveller, int what) {
        index(isTraveller(traveller) && within(what, 0, 4));
        return List.of(known.get(traveller), paid(traveller),
                passed.contains(traveller) ? 1 : sent.contains(traveller) ? 2 : 0,
                (int) log.stream().filter(telling -> telling.traveller() == traveller).count(),
                (int) holders.values().stream().filter(holder -> holder == traveller).count()).get(what);
    }

    int plot(int plot, int what) {
        index(isPlot(plot) && within(what, 0, 3));
        List<Integer> row = row(plot);
        return List.of(row.size(), isOpen(plot) ? 1 : 0, holders.getOrDefault(plot, -1), wonderOf(row)).get(what);
    }

    int told(int plot, int place) {
        index(isPlot(plot));
        index(within(place, 0, row(plot).size() - 1));
        return row(plot).get(place);
    }

    int count(int what) {
        index(within(what, 0, 10));
        int open = 0;
        for (int plot = 0; plot < plots(); plot++) {
            open += plot(plot, 1);
        }
        return List.of(new Integer[] {now, scenes.size(), pairs.size(), patience.size(), guardsAwake().size(),
            known.size(), known.size() - passed.size() - sent.size(), passed.size(), plots(), open, tolls()}).get(what);
    }

    // ---- what would be

    int worth(int guard, int scene) {
        index(isGuard(guard) && isScene(scene));
        int heard = 0;
        for (Telling telling : log) {
            if (telling.scene() == scene && telling.hearers().contains(guard)) {
                heard++;
            }
        }
        boolean sameHue = !log.isEmpty() && scenes.get(log.get(log.size() - 1).scene()).hue() == scenes.get(scene).hue();
        return scenes.get(scene).wonder() / (1 + heard) + (sameHue ? 0 : 2);
    }

    int best(int traveller, int plot) {
        index(isTraveller(traveller) && isPlot(plot));
        List<Integer> could = new ArrayList<>();
        for (int scene = 0; scene < scenes.size(); scene++) {
            if (isOnTheWay(traveller) && has(known.get(traveller), scene)
                    && (isBeginning(scene) ? plots() < 8 : canBeToldOn(traveller, scene, plot))) {
                could.add(scene);
            }
        }
        could.sort((one, other) -> tollNow(one) != tollNow(other) ? tollNow(other) - tollNow(one) : one - other);
        return could.isEmpty() ? -1 : could.get(0);
    }

    /** Row by row, each one scene longer than those before, without recursion. */
    int most(int plot) {
        index(isPlot(plot));
        if (!isOpen(plot)) {
            return 0;
        }
        int most = -1;
        List<List<Integer>> rows = List.of(row(plot));
        while (!rows.isEmpty()) {
            List<List<Integer>> longer = new ArrayList<>();
            for (List<Integer> row : rows) {
                for (Pair pair : pairs) {
                    if (row.size() < 8 && pair.scene() == row.get(row.size() - 1) && !row.contains(pair.behind())) {
                        List<Integer> next = new ArrayList<>(row);
                        next.add(pair.behind());
                        longer.add(next);
                    }
                }
            }
            for (List<Integer> row : longer) {
                if (isEnding(row.get(row.size() - 1))) {
                    most = Math.max(most, wonderOf(row) - wonderOf(row(plot)));
                }
            }
            rows = longer;
        }
        return most;
    }

    int sleeps(int guard) {
        index(isGuard(guard));
        int patienceNow = patience.get(guard);
        boolean asleepNow = asleep.contains(guard);
        int answer = -1;
        for (int watches = 1; watches <= 100 && answer == -1; watches++) {
            letWatchGoBy(guard);
            if (asleep.contains(guard) != asleepNow) {
                answer = watches;
            }
        }
        patience.set(guard, patienceNow);
        asleep.remove(guard);
        if (asleepNow) {
            asleep.add(guard);
        }
        return answer;
    }

    double mean() {
        return log.isEmpty() ? 0 : (double) tolls() / log.size();
    }

    long digest() {
        List<Integer> numbers = new ArrayList<>();
        for (int what = 0; what <= 10; what++) {
            numbers.add(count(what));
        }
        for (int i = 0; i < 5 * scenes.size(); i++) {
            numbers.add(scene(i / 5, i % 5));
        }
        for (int i = 0; i < 3 * patience.size(); i++) {
            numbers.add(guard(i / 3, i % 3));
        }
        for (int i = 0; i < 5 * known.size(); i++) {
            numbers.add(traveller(i / 5, i % 5));
        }
        for (int plot = 0; plot < plots(); plot++) {
            for (int what = 0; what <= 3; what++) {
                numbers.add(plot(plot, what));
            }
            numbers.addAll(row(plot));
        }
        return numbers.stream().mapToLong(x -> x).reduce(839, (d, x) -> d * 31 + x);
    }

    private static void index(boolean holds) {
        if (!holds) {
            throw new IndexOutOfBoundsException();
        }
    }

    private static void argument(boolean holds) {
        if (!holds) {
            throw new IllegalArgumentException();
        }
    }

    private static void state(boolean holds) {
        if (!holds) {
            throw new IllegalStateException();
        }
    }

    private static boolean within(int number, int least, int most) {
        return least <= number && number <= most;
    }

    private static boolean has(int set, int scene) {
        return (set >>> scene) % 2 != 0;
    }

    private boolean isScene(int number) {
        return within(number, 0, scenes.size() - 1);
    }

    private boolean isBeginning(int scene) {
        return scenes.get(scene).kind() == 0;
    }

    private boolean isEnding(int scene) {
        return scenes.get(scene).kind() == 2;
    }

    private boolean isGuard(int number) {
        return within(number, 0, patience.size() - 1);
    }

    private boolean isTraveller(int number) {
        return within(number, 0, known.size() - 1);
    }

    private boolean isOnTheWay(int traveller) {
        return !passed.contains(traveller) && !sent.contains(traveller);
    }

    private boolean isPlot(int number) {
        return within(number, 0, plots() - 1);
    }

    /** Each plot is begun with a beginning, and a beginning is told nowhere else. */
    private int plots() {
        return (int) log.stream().filter(telling -> isBeginning(telling.scene())).count();
    }

    private List<Integer> row(int plot) {
        return log.stream().filter(telling -> telling.plot() == plot).map(Telling::scene).toList();
    }

    private int wonderOf(List<Integer> row) {
        return row.stream().mapToInt(scene -> scenes.get(scene).wonder()).sum();
    }

    private boolean isOpen(int plot) {
        return row(plot).stream().noneMatch(this::isEnding);
    }

    private boolean canBeToldOn(int traveller, int scene, int plot) {
        List<Integer> row = row(plot);
        boolean reservedByAnother = holders.containsKey(plot) && holders.get(plot) != traveller;
        return isOpen(plot) && row.size() < 8 && pairs.contains(new Pair(row.get(row.size() - 1), scene))
                && !(isEnding(scene) && reservedByAnother);
    }

    private int tolls() {
        return log.stream().mapToInt(Telling::toll).sum();
    }

    private int tollNow(int scene) {
        return guardsAwake().stream().mapToInt(guard -> worth(guard, scene)).max().orElse(0);
    }

    private int paid(int traveller) {
        int tolls = log.stream().filter(telling -> telling.traveller() == traveller).mapToInt(Telling::toll).sum();
        return tolls - 5 * given.getOrDefault(traveller, 0);
    }

    private Set<Integer> guardsAwake() {
        Set<Integer> awake = new HashSet<>();
        for (int guard = 0; guard < patience.size(); guard++) {
            if (!asleep.contains(guard)) {
                awake.add(guard);
            }
        }
        return awake;
    }

    private void setPatience(int guard, int wanted) {
        patience.set(guard, Math.min(30, Math.max(0, wanted)));
    }

    private void letWatchGoBy(int guard) {
        if (asleep.contains(guard)) {
            setPatience(guard, patience.get(guard) + 5);
            if (patience.get(guard) >= 10) {
                asleep.remove(guard);
            }
        } else {
            setPatience(guard, patience.get(guard) - 1);
            if (patience.get(guard) == 0) {
                asleep.add(guard);
            }
        }
    }
}
