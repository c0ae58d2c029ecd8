import java.util.ArrayList;
import java.util.HashMap;
import java.util.List;
import java.util.Map;

/**
 * Tells two states apart: by all that can be asked, and, as permits, what was sent to whom, replies and the like can't
 * be asked, by going on from both in many ways. Each way is gone on objects of its own.
 */
final class Sight {
    private static final int BROKERS = 3;
    private static final int BOOKIES = 6;
    private static final int CONSUMERS = 4;
    /** By how many ledgers there are. */
    private static final Map<Integer, List<List<Call>>> WAYS = new HashMap<>();

    private Sight() {
    }

    /** The first call that is answered differently, or null. */
    static String difference(Run got, Run due) {
        Run counting = due.again();
        int ledgers = counting.ask("meta(2)");
        int messages = counting.ask("meta(4)");
        String difference = differenceInAnswers(got, due, questions(ledgers, messages));
        List<List<Call>> ways = WAYS.computeIfAbsent(ledgers, Sight::ways);
        for (int i = 0; i < ways.size() && difference == null; i++) {
            difference = differenceOnWay(got, due, ways.get(i));
        }
        return difference;
    }

    private static String differenceInAnswers(Run got, Run due, List<Call> questions) {
        Run one = got.again();
        Run other = due.again();
        for (Call question : questions) {
            if (one.room() == 0 || other.room() == 0) {
                one = got.again();
                other = due.again();
            }
            String difference = differenceInAnswer(one, other, question);
            if (difference != null) {
                return difference;
            }
        }
        return null;
    }

    private static String differenceOnWay(Run got, Run due, List<Call> way) {
        Run one = got.again();
        Run other = due.again();
        for (int i = 0; i < way.size(); i++) {
            String difference = differenceInAnswer(one, other, way.get(i));
            if (difference != null) {
                return difference + " on the way " + way.subList(0, i);
            }
        }
        return null;
    }

    private static String differenceInAnswer(Run one, Run other, Call call) {
        String got = one.make(call);
        String due = other.make(call);
        return got.equals(due) ? null : call + " -> " + got + ", due is " + due;
    }

    static List<Call> questions(int ledgers, int messages) {
        List<Call> calls = new ArrayList<>();
        ask(calls, "meta", 0, 4);
        ask(calls, "heard", 0, 3);
        ask(calls, "broker", 0, BROKERS - 1, 0, 3);
        ask(calls, "message", 1, messages + 1, 0, 2);
        ask(calls, "ledger", 0, ledgers, 0, 9);
        ask(calls, "fenced", 0, BOOKIES - 1, 0, ledgers);
        for (int l = 0; l < ledgers; l++) {
            ask(calls, "entry", 0, BOOKIES - 1, 8 * l, 8 * l + 7);
            ask(calls, "acked", -1, BROKERS - 1, 0, 1, 8 * l, 8 * l + 7);
        }
        return calls;
    }

    /** Calls with all arguments from the first to the second bound, of each argument. */
    private static void ask(List<Call> calls, String name, int... bounds) {
        int count = bounds.length / 2;
        Integer[] now = new Integer[count];
        for (int i = 0; i < count; i++) {
            now[i] = bounds[2 * i];
        }
        while (now[0] <= bounds[1]) {
            calls.add(new Call(name, (Object[]) now.clone()));
            int i = count - 1;
            now[i]++;
            while (i > 0 && now[i] > bounds[2 * i + 1]) {
                now[i] = bounds[2 * i];
                i--;
                now[i]++;
            }
        }
    }

    private static List<List<Call>> ways(int ledgers) {
        List<String> ways = new ArrayList<>();
        for (int b = 0; b < BROKERS; b++) {
            for (int s = 0; s < 2; s++) {
                addConsumerWays(ways, b, s, ledgers);
            }
            addBrokerWays(ways, b);
        }
        ways.add(each(BOOKIES, "power(#, false); wipe(#); power(#, true)"));
        ways.add(each(BOOKIES, "sync(#)") + asked());
        for (int k = 0; k < BOOKIES; k++) {
            ways.add("sync(" + k + ");" + asked());
        }
        List<List<Call>> calls = new ArrayList<>();
        for (String way : ways) {
            calls.add(Call.all(way));
        }
        return calls;
    }

    private static void addConsumerWays(List<String> ways, int b, int s, int ledgers) {
        String where = "(" + b + ", " + s;
        String sends = ("send" + where + ");").repeat(8);
        String attaches = each(CONSUMERS, "attach" + where + ", #)");
        String permits = each(CONSUMERS, "permit" + where + ", #, 3)");
        ways.add(sends);
        ways.add(permits + sends);
        ways.add(newEntries(b) + attaches + permits + sends);
        ways.add(each(CONSUMERS, "detach" + where + ", #)") + attaches + permits + sends);
        // The last two ledgers will do: what is refused has to do with the newest ones.
        StringBuilder acks = new StringBuilder();
        for (int position = 8 * Math.max(0, ledgers - 2); position < 8 * ledgers; position++) {
            acks.append(each(CONSUMERS, "ack" + where + ", #, " + position + ", false)"));
        }
        ways.add(acks.toString());
    }

    /** Whatever its phase, the broker has confirmed entries then, if there is room and it is not OUT or outdated. */
    private static String newEntries(int b) {
        String all = each(BOOKIES, "add(b, #); sync(#)");
        return (each(BOOKIES, "power(#, true)") + each(BOOKIES, "fence(b, #)") + all + "close(b); open(b, 0); publish(b, 0, 1000, 9); publish(b, 3, 1000, 9);" + all)
                .replace("(b", "(" + b);
    }

    private static void addBrokerWays(List<String> ways, int b) {
        ways.add(each(BOOKIES, "add(" + b + ", #)") + each(BOOKIES, "sync(#)") + asked() + "close(" + b + ")");
        ways.add(each(BOOKIES, "fence(" + b + ", #); broker(" + b + ", 2)") + "close(" + b + ")");
        for (int k = 0; k < BOOKIES; k++) {
            ways.add(("fence(b, " + k + "); broker(b, 2); close(b); meta(0)").replace("(b", "(" + b));
        }
        StringBuilder publishes = new StringBuilder();
        for (int p = 0; p < 4; p++) {
            for (int q : new int[] {1, 2, 3, 4, 5, 6, 7, 8, 1000}) {
                publishes.append("publish(" + b + ", " + p + ", " + q + ", 9);");
            }
        }
        ways.add(publishes + asked());
        ways.add("close(b); open(b, 0); save(b); trim(b); meta(0); meta(3)".replace("(b", "(" + b));
        ways.add(("own(b); broker(b, 3); run(b, true); run(b, false); run(b, true)").replace("(b", "(" + b));
    }

    private static String asked() {
        return "broker(0, 2); broker(1, 2); broker(2, 2); heard(0); heard(1); heard(2); heard(3); close(0); close(1); close(2); meta(0);";
    }

    private static String each(int count, String text) {
        StringBuilder all = new StringBuilder();
        for (int i = 0; i < count; i++) {
            all.append(text.replace("#", "" + i)).append(';');
        }
        return all.toString();
    }
}
