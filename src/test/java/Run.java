import java.util.ArrayList;
import java.util.List;

/** A run of calls that change a gate, which can be played again on a new one. */
final class Run {
    static final int REFUSED = Integer.MIN_VALUE;

    private static final String[] NAMES = {"make", "follow", "post", "come", "tell", "reserve", "pass", "send", "watch"};

    private final List<int[]> calls = new ArrayList<>();
    private Class<? extends RuntimeException> refusal;

    /** Makes a call (its number among NAMES, and its arguments), and keeps it if it was not refused. */
    int call(StoryToll gate, int... call) {
        refusal = null;
        try {
            int answer = made(gate, call);
            calls.add(call);
            return answer;
        } catch (RuntimeException e) {
            refusal = e.getClass();
            return REFUSED;
        }
    }

    /** The exception of the last call, null if it threw none. */
    Class<? extends RuntimeException> refusal() {
        return refusal;
    }

    StoryToll playedAgain() {
        StoryToll gate = new StoryToll();
        for (int[] call : calls) {
            answerOf(gate, call);
        }
        return gate;
    }

    static String nameOf(int... call) {
        StringBuilder text = new StringBuilder(NAMES[call[0]]);
        for (int i = 1; i < call.length; i++) {
            text.append(i == 1 ? "(" : ", ").append(call[i]);
        }
        return text.append(call.length == 1 ? "()" : ")").toString();
    }

    static int answerOf(StoryToll gate, int... call) {
        try {
            return made(gate, call);
        } catch (IndexOutOfBoundsException | IllegalArgumentException | IllegalStateException e) {
            return REFUSED;
        }
    }

    static int made(StoryToll gate, int... call) {
        switch (call[0]) {
            case 0: return gate.make(call[1], call[2], call[3]);
            case 1: return gate.follow(call[1], call[2]);
            case 2: return gate.post();
            case 3: return gate.come(call[1]);
            case 4: return gate.tell(call[1], call[2], call[3]);
            case 5: return gate.reserve(call[1], call[2]);
            case 6: return gate.pass(call[1]) ? 1 : 0;
            case 7: return gate.send(call[1]);
            default: return gate.watch(call[1]);
        }
    }
}
