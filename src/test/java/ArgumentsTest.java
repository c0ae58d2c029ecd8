import java.util.ArrayList;
import java.util.List;
import java.util.Map;

/**
 * "IllegalArgumentException: there is no such broker, bookie, producer, consumer, subscription, a number is not as
 * said": for each argument of each call that can be refused, the least and the greatest that there is are taken, and
 * what is one less or one more, and the ends of int, are refused before anything else is looked at.
 */
public final class ArgumentsTest {
    private static final Script SCRIPT = new Script();
    private static final int BOOKIES = 4;
    private static final Map<Character, int[]> BOUNDS = Map.of(
            'B', new int[] {0, 2},
            'K', new int[] {0, BOOKIES - 1},
            'P', new int[] {0, 3},
            'Q', new int[] {1, 1000},
            'S', new int[] {0, 1},
            'C', new int[] {0, 3},
            'N', new int[] {1, 100});
    private static final String[] CALLS = {
        "own(B)", "fence(B, K)", "add(B, K)", "sync(K)", "close(B)", "open(B, K)", "publish(B, P, Q, 5)",
        "attach(B, S, C)", "detach(B, S, C)", "permit(B, S, C, N)", "send(B, S)", "ack(B, S, C, 0, true)",
        "save(B)", "trim(B)", "power(K, true)", "power(K, false)", "wipe(K)", "run(B, true)", "run(B, false)"};

    public static void main(String[] args) {
        for (Run state : states()) {
            for (String call : CALLS) {
                for (char letter : lettersOf(call)) {
                    checkLetter(state, call, letter);
                }
            }
        }
        SCRIPT.end();
    }

    /** In which the calls would be answered, or refused for each other reason. */
    private static List<Run> states() {
        String allDown = "power(0, false); power(1, false); power(2, false); power(3, false); run(0, false); run(1, false); run(2, false)";
        Run writing = full().after("own(1); own(2); own(0); open(0, 0); publish(0, 0, 5, 5); attach(0, 0, 0)");
        Run recovering = writing.again().after("own(1); own(2); own(0); fence(0, 0); attach(0, 1, 0)");
        Run noRoom = full().after("own(0); open(0, 0); publish(0, 0, 1, 1); publish(0, 0, 2, 1); publish(0, 0, 3, 1);"
                + "publish(0, 0, 4, 1); publish(0, 0, 5, 1); publish(0, 0, 6, 1); add(0, 0); sync(0); own(1); own(2); fence(2, 0); fence(2, 1)");
        return List.of(full(), full().after(allDown), writing, writing.again().after(allDown), recovering, noRoom);
    }

    private static Run full() {
        return new Run(BOOKIES, BOOKIES, 2, 2);
    }

    private static List<Character> lettersOf(String call) {
        List<Character> letters = new ArrayList<>();
        for (char letter : call.toCharArray()) {
            if (BOUNDS.containsKey(letter)) {
                letters.add(letter);
            }
        }
        return letters;
    }

    private static void checkLetter(Run state, String call, char letter) {
        int least = BOUNDS.get(letter)[0];
        int greatest = BOUNDS.get(letter)[1];
        for (int wrong : new int[] {least - 1, greatest + 1, Integer.MIN_VALUE, Integer.MAX_VALUE}) {
            SCRIPT.check("no such " + letter, state.again(), filled(call, letter, wrong), "IAE");
        }
        for (int right : new int[] {least, greatest}) {
            SCRIPT.checkNot("there is such " + letter, state.again(), filled(call, letter, right), "IAE");
        }
    }

    /** The call with the number for that letter, and the least that there is for the others. */
    private static Call filled(String call, char letter, int number) {
        String text = call;
        for (char other : lettersOf(call)) {
            text = text.replace("" + other, "" + (other == letter ? number : BOUNDS.get(other)[0]));
        }
        return Call.of(text);
    }
}
