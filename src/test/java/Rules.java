import java.util.Set;

/** Which exception the document names for a call that changes a gate, looked up by what the gate answers. */
final class Rules {
    private static final Class<? extends RuntimeException> INDEX = IndexOutOfBoundsException.class;
    private static final Class<? extends RuntimeException> ARGUMENT = IllegalArgumentException.class;
    private static final Class<? extends RuntimeException> STATE = IllegalStateException.class;

    private Rules() {
    }

    /** The exception that is due for a call as Run writes it, null for none; pairs holds scene * 24 + behind. */
    static Class<? extends RuntimeException> refusal(StoryToll gate, Set<Integer> pairs, int... call) {
        switch (call[0]) {
            case 0: return ofMake(gate, call[1], call[2], call[3]);
            case 1: return ofFollow(gate, pairs, call[1], call[2]);
            case 2: return gate.count(3) == 4 ? STATE : null;
            case 3: return ofCome(gate, call[1]);
            case 4: return ofTell(gate, pairs, call[1], call[2], call[3]);
            case 5: return ofReserve(gate, call[1], call[2]);
            case 8: return call[1] < 1 || call[1] > 100 ? ARGUMENT : null;
            default: return noTraveller(gate, call[1]) ? INDEX : gate.traveller(call[1], 2) != 0 ? STATE : null;
        }
    }

    private static boolean noScene(StoryToll gate, int scene) {
        return scene < 0 || scene >= gate.count(1);
    }

    private static boolean noTraveller(StoryToll gate, int traveller) {
        return traveller < 0 || traveller >= gate.count(5);
    }

    private static boolean noPlot(StoryToll gate, int plot) {
        return plot < 0 || plot >= gate.count(8);
    }

    private static Class<? extends RuntimeException> ofMake(StoryToll gate, int kind, int wonder, int hue) {
        if (kind < 0 || kind > 2 || wonder < 1 || wonder > 20 || hue < 0 || hue > 5) {
            return ARGUMENT;
        }
        return gate.count(1) == 24 ? STATE : null;
    }

    private static Class<? extends RuntimeException> ofFollow(StoryToll gate, Set<Integer> pairs, int scene, int behind) {
        if (noScene(gate, scene) || noScene(gate, behind)) {
            return INDEX;
        }
        if (gate.scene(scene, 0) == 2 || gate.scene(behind, 0) == 0 || scene == behind) {
            return ARGUMENT;
        }
        return pairs.size() == 60 && !pairs.contains(scene * 24 + behind) ? STATE : null;
    }

    private static Class<? extends RuntimeException> ofCome(StoryToll gate, int scenes) {
        if (scenes < 0 || scenes >= 1 << gate.count(1)) {
            return ARGUMENT;
        }
        return gate.count(5) == 12 ? STATE : null;
    }

    private static Class<? extends RuntimeException> ofTell(
            StoryToll gate, Set<Integer> pairs, int traveller, int scene, int plot) {
        if (noTraveller(gate, traveller) || noScene(gate, scene)) {
            return INDEX;
        }
        boolean beginning = gate.scene(scene, 0) == 0;
        if (!beginning && noPlot(gate, plot)) {
            return INDEX;
        }
        if (gate.traveller(traveller, 2) != 0 || (gate.traveller(traveller, 0) & 1 << scene) == 0) {
            return STATE;
        }
        if (beginning) {
            return gate.count(8) == 8 ? STATE : null;
        }
        int length = gate.plot(plot, 0);
        int last = gate.told(plot, length - 1);
        if (gate.scene(last, 0) == 2 || length == 8 || !pairs.contains(last * 24 + scene)) {
            return STATE;
        }
        int holder = gate.plot(plot, 2);
        return gate.scene(scene, 0) == 2 && holder != -1 && holder != traveller ? STATE : null;
    }

    private static Class<? extends RuntimeException> ofReserve(StoryToll gate, int traveller, int plot) {
        if (noTraveller(gate, traveller) || noPlot(gate, plot)) {
            return INDEX;
        }
        boolean can = gate.traveller(traveller, 2) == 0 && gate.traveller(traveller, 1) >= 5
                && gate.plot(plot, 1) == 1 && gate.plot(plot, 2) == -1;
        return can ? null : STATE;
    }
}
