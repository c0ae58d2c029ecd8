import java.util.ArrayList;
import java.util.List;

/** A run of calls on a new object; it can be done again, up to where it is, on another one. */
final class Run {
    /** What an object answers to later calls is free. */
    static final int MOST_CALLS = 512;

    private final int[] sizes;
    private final List<Call> calls = new ArrayList<>();
    private final TopicLedgers topic;

    Run(int bookies, int ensemble, int write, int ack) {
        sizes = new int[] {bookies, ensemble, write, ack};
        topic = new TopicLedgers(bookies, ensemble, write, ack);
    }

    /** Makes calls whose answers are looked at elsewhere. */
    Run after(String text) {
        for (Call call : Call.all(text)) {
            make(call);
        }
        return this;
    }

    String make(Call call) {
        if (room() == 0) {
            throw new AssertionError("this test makes too many calls on one object");
        }
        calls.add(call);
        return call.on(topic);
    }

    int ask(String text) {
        return Integer.parseInt(make(Call.of(text)));
    }

    Run again() {
        Run other = new Run(sizes[0], sizes[1], sizes[2], sizes[3]);
        for (Call call : calls) {
            other.make(call);
        }
        return other;
    }

    int room() {
        return MOST_CALLS - calls.size();
    }
}
