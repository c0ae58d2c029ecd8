import java.util.ArrayList;
import java.util.HashMap;
import java.util.List;
import java.util.Map;

/**
 * Tells two states apart: by all that can be asked, and, as permits, what was sent to whom, replies and the like can't
 * be asked, by going on from both in many ways. Each way is gone on objects of its own.
 */
final class Sight {
    private static final int BROKERS = 3;
    private static final int BOOKIES = 6;
    /** By how many ledgers there are. */
    private static final Map<Integer, List<List<Call>>> WAYS = new HashMap<>();

    private Sight() {
    }

    /** The first call that is answered differently, or null. */
    static String difference(Run got, Run due) {
        Run counting = due.again();
        int ledgers = counting.ask("meta(2)");
        int messages = counting.ask("meta(4)");
        String difference = differenceOnWay(got, due, questions(ledgers, messages));
        List<List<Call>> ways = WAYS.computeIfAbsent(ledgers, Sight::ways);
        for (int i = 0; i < ways.size() && difference == null; i++) {
            difference = differenceOnWay(got, due, ways.get(i));
        }
        return difference;
    }

    private static String differenceOnWay(Run got, Run due, List<Call> way) {
        Run one = got.again();
        Run other = due.again();
        for (int i = 0; i < way.size(); i++) {
            if (one.room() == 0 || other.room() == 0) {
                // Only the questions are that many, and they change nothing.
                one = got.again();
                other = due.again();
            }
            String answer = one.make(way.get(i));
            String dueAnswer = other.make(way.get(i));
            if (!answer.equals(dueAnswer)) {
                String path = way.get(0).name.equals("meta") ? "" : " on the way " + way.subList(0, i);
                return way.get(i) + " -> " + answer + ", due is " + dueAnswer + path;
            }
        }
        return null;
    }

    static List<Call> questions(int ledgers, int messages) {
        List<Call> calls = new ArrayList<>();
        ask(calls, "meta", 0, 4);
        ask(calls, "heard", 0, 3);
        ask(calls, "broker", 0, BROKERS - 1, 0, 3);
        ask(calls, "message", 1, messages + 1, 0, 2);
        ask(calls, "ledger", 0, ledgers, 0, 9);
        ask(calls, "fenced", 0, BOOKIES - 1, 0, ledgers);
        for (int l = 0; l < ledgers; l++) {
            ask(calls, "entry", 0, BOOKIES - 1, 8 * l, 8 * l + 7);
            ask(calls, "acked", -1, BROKERS - 1, 0, 1, 8 * l, 8 * l + 7);
        }
        return calls;
    }

    /** Calls with all arguments from the first to the second bound, of each argument. */
    private static void ask(List<Call> calls, String name, int... bounds) {
        int count = bounds.length / 2;
        Integer[] now = new Integer[count];
        for (int i = 0; i < count; i++) {
            now[i] = bounds[2 * i];
        }
        while (now[0] <= bounds[1]) {
            calls.add(new Call(name, (Object[]) now.clone()));
            int i = count - 1;
            now[i]++;
            while (i > 0 && now[i] > bounds[2 * i + 1]) {
                now[i] = bounds[2 * i];
                i--;
                now[i]++;
            }
        }
    }

    private static List<List<Call>> ways(int ledgers) {
        List<String> ways = new ArrayList<>();
        for (int b = 0; b < BROKERS; b++) {
            for (int s = 0; s < 2; s++) {
                addConsumerWays(ways, b, s, ledgers);
            }
            addBrokerWays(ways, b);
        }
        ways.add(each("power(#, false); wipe(#); power(#, true)"));
        ways.add(each("sync(#)") + asked());
        for (int k = 0; k < BOOKIES; k++) {
            ways.add("sync(" + k + ");" + asked());
        }
        List<List<Call>> calls = new ArrayList<>();
        for (String way : ways) {
            calls.add(Call.all(way));
        }
        return calls;
    }

    private static void addConsumerWays(List<String> ways, int b, int s, int ledgers) {
        String send = "send(" + b + ", " + s + ");";
        ways.add(send.repeat(8));
        StringBuilder permits = new StringBuilder();
        StringBuilder detaches = new StringBuilder();
        for (int c = 0; c < 4; c++) {
            permits.append("permit(" + b + ", " + s + ", " + c + ", 3);");
            detaches.append("detach(" + b + ", " + s + ", " + c + ");");
        }
        ways.add(permits + send.repeat(8));
        ways.add(detaches + "attach(b, s, 3); permit(b, s, 3, 9);".replace("b", "" + b).replace("s,", s + ",") + send.repeat(8));
        // The last two ledgers will do: what is refused has to do with the newest ones.
        StringBuilder acks = new StringBuilder();
        for (int position = 8 * Math.max(0, ledgers - 2); position < 8 * ledgers; position++) {
            for (int c = 0; c < 4; c++) {
                acks.append("ack(" + b + ", " + s + ", " + c + ", " + position + ", false);");
            }
        }
        ways.add(acks.toString());
    }

    private static void addBrokerWays(List<String> ways, int b) {
        ways.add(each("add(" + b + ", #)") + each("sync(#)") + asked() + "close(" + b + ")");
        ways.add(each("fence(" + b + ", #); broker(" + b + ", 2)") + "close(" + b + ")");
        for (int k = 0; k < BOOKIES; k++) {
            ways.add(("fence(b, " + k + "); broker(b, 2); close(b); meta(0)").replace("(b", "(" + b));
        }
        StringBuilder publishes = new StringBuilder();
        for (int p = 0; p < 4; p++) {
            for (int q : new int[] {1, 2, 3, 4, 5, 6, 7, 8, 1000}) {
                publishes.append("publish(" + b + ", " + p + ", " + q + ", 9);");
            }
        }
        ways.add(publishes + asked());
        ways.add("close(b); open(b, 0); save(b); trim(b); meta(0); meta(3)".replace("(b", "(" + b));
        ways.add(("own(b); broker(b, 3); run(b, true); run(b, false); run(b, true)").replace("(b", "(" + b));
    }

    private static String asked() {
        return "broker(0, 2); broker(1, 2); broker(2, 2); heard(0); heard(1); heard(2); heard(3); close(0); close(1); close(2); meta(0);";
    }

    private static String each(String text) {
        StringBuilder all = new StringBuilder();
        for (int k = 0; k < BOOKIES; k++) {
            all.append(text.replace("#", "" + k)).append(';');
        }
        return all.toString();
    }
}
