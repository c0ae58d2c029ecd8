import java.util.Arrays;
import java.util.Map;
import java.util.Random;
import java.util.TreeMap;

/**
 * Random runs of calls, always the same ones, held against Model: every answer, some of what can be asked on the way,
 * and all of it once in each run. So it is seen as well that what throws changes nothing but as said, and that nothing
 * else is ever thrown.
 */
public final class RandomTest {
    private static final int RUNS = 2000;
    private static final int[] STRANGE = {-1, -2, 4, 6, 10, 80, 101, 1001, Integer.MAX_VALUE, Integer.MIN_VALUE};
    private static final String[] ANY = {"own", "fence", "add", "sync", "close", "open", "publish", "attach", "detach",
        "detach", "permit", "send", "ack", "save", "trim", "power", "power", "wipe", "run"};
    private static final String[] CONSUMING = {"attach", "attach", "permit", "permit", "send", "send", "send", "send", "ack", "ack", "ack"};
    private static final String[] QUESTIONS = {"meta", "ledger", "entry", "broker", "broker", "message", "heard", "acked", "fenced"};
    /** What gets a broker on, by its phase. */
    private static final String[][] USEFUL = {
        {"own"},
        {"fence", "fence", "fence", "add", "close"},
        {"open", "open", "save", "trim"},
        {"publish", "publish", "publish", "add", "add", "add", "sync", "sync", "close"},
    };

    private final Random random;
    private final Run run;
    private final Model model;
    private final Map<String, Integer> seen;

    private RandomTest(int seed, Map<String, Integer> seen) {
        random = new Random(seed);
        this.seen = seen;
        int[] sizes = {random.nextInt(5) + 2, random.nextInt(5), random.nextInt(4), random.nextInt(4)};
        run = new Run(sizes[0], sizes[1], sizes[2], sizes[3]);
        model = new Model(sizes[0], sizes[1], sizes[2], sizes[3]);
    }

    public static void main(String[] args) {
        Map<String, Integer> seen = new TreeMap<>();
        for (int seed = 0; seed < RUNS; seed++) {
            String wrong = new RandomTest(seed, seen).firstDifference();
            if (wrong != null) {
                System.out.println("run " + seed + ", " + wrong);
                System.exit(1);
            }
        }
        if (args.length > 0) {
            seen.forEach((what, count) -> System.out.println(what + " " + count));
        }
        System.out.println(RUNS + " runs of " + Run.MOST_CALLS + " calls are as the model's");
    }

    private String firstDifference() {
        int roomWhenAllIsAsked = 60 + random.nextInt(Run.MOST_CALLS - 60);
        String wrong = null;
        while (run.room() > 0 && wrong == null) {
            wrong = run.room() == roomWhenAllIsAsked ? differenceInAll() : null;
            wrong = wrong == null ? compare(run, random.nextInt(3) == 0 ? question() : someCall()) : wrong;
        }
        return wrong == null ? null : "with room for " + run.room() + " calls: " + wrong;
    }

    private String differenceInAll() {
        Run copy = run.again();
        for (Call call : Sight.questions(model.ledgers.size(), model.messages.size())) {
            copy = copy.room() == 0 ? run.again() : copy;
            String wrong = compare(copy, call);
            if (wrong != null) {
                return wrong;
            }
        }
        return null;
    }

    private String compare(Run asked, Call call) {
        String due = call.on(model);
        String got = asked.make(call);
        seen.merge(call.name + (Call.isRefusal(due) ? " " + due : ""), 1, Integer::sum);
        return got.equals(due) ? null : call + " -> " + got + ", due is " + due;
    }

    private Call question() {
        String name = QUESTIONS[random.nextInt(QUESTIONS.length)];
        int l = Math.max(0, model.ledgers.size() - 1 - random.nextInt(3));
        int position = 8 * l + random.nextInt(7);
        switch (name) {
            case "ledger":
                return new Call(name, perhapsStrange(l, random.nextInt(11)));
            case "entry":
                return new Call(name, perhapsStrange(random.nextInt(model.bookieCount), position));
            case "broker":
                return new Call(name, perhapsStrange(random.nextInt(3), random.nextInt(4)));
            case "message":
                return new Call(name, perhapsStrange(random.nextInt(model.messages.size() + 1), random.nextInt(3)));
            case "acked":
                return new Call(name, perhapsStrange(random.nextInt(4) - 1, random.nextInt(2), position));
            case "fenced":
                return new Call(name, perhapsStrange(random.nextInt(model.bookieCount), l));
            default:
                return new Call(name, perhapsStrange(random.nextInt(4)));
        }
    }

    private Object[] perhapsStrange(int... numbers) {
        if (random.nextInt(25) == 0) {
            numbers[random.nextInt(numbers.length)] = STRANGE[random.nextInt(STRANGE.length)];
        }
        Object[] all = new Object[numbers.length];
        for (int i = 0; i < all.length; i++) {
            all[i] = numbers[i];
        }
        return all;
    }

    private Call someCall() {
        int b = model.owner >= 0 && random.nextInt(10) < 7 ? model.owner : random.nextInt(3);
        String name = someName(b);
        return new Call(name, arguments(name, b));
    }

    private String someName(int b) {
        int kind = random.nextInt(20);
        if (kind == 0) {
            return ANY[random.nextInt(ANY.length)];
        }
        if (!model.brokers.get(b).up && kind < 12) {
            return "run";
        }
        if (kind == 1 && downBookie() >= 0) {
            return random.nextInt(3) == 0 ? "wipe" : "power";
        }
        int phase = model.brokers.get(b).phase();
        String[] names = kind < 8 && phase != Model.OUT ? CONSUMING : USEFUL[phase];
        // A broker that is not the owner is seldom made one, or the owner would get nowhere.
        return phase == Model.OUT && b != model.owner && model.owner >= 0 && kind < 18 ? "sync" : names[random.nextInt(names.length)];
    }

    private Object[] arguments(String name, int b) {
        Object[] numbers = perhapsStrange(numbers(name, b));
        int first = (Integer) numbers[0];
        switch (name) {
            case "ack":
                return with(numbers, random.nextInt(3) == 0);
            case "power":
                return with(numbers, first < 0 || first >= model.bookieCount || model.bookies.get(first).up == (random.nextInt(9) == 0));
            case "run":
                return with(numbers, first < 0 || first >= 3 || model.brokers.get(first).up == (random.nextInt(9) == 0));
            default:
                return numbers;
        }
    }

    private static Object[] with(Object[] numbers, boolean last) {
        Object[] all = Arrays.copyOf(numbers, numbers.length + 1);
        all[numbers.length] = last;
        return all;
    }

    private int[] numbers(String name, int b) {
        int s = random.nextInt(2);
        switch (name) {
            case "fence": case "add": case "open":
                return new int[] {b, someBookie(b)};
            case "sync":
                return new int[] {someBookie(b)};
            case "power": case "wipe":
                return new int[] {downBookie() >= 0 && random.nextInt(8) > 0 ? downBookie() : someBookie(b)};
            case "publish":
                return new int[] {b, random.nextInt(4), 1 + model.messages.size() / 2 + random.nextInt(8), random.nextInt()};
            case "attach":
                return new int[] {b, s, random.nextInt(4)};
            case "detach":
                return attachedOne(b, s);
            case "permit":
                int[] permit = Arrays.copyOf(attachedOne(b, s), 4);
                permit[3] = 1 + random.nextInt(6);
                return permit;
            case "send":
                return new int[] {b, s};
            case "ack":
                return sentOne(b, s);
            default:
                return new int[] {b};
        }
    }

    private int someBookie(int b) {
        Model.Owned owned = model.brokers.get(b).owned;
        if (owned == null || owned.ledger < 0 || random.nextInt(20) == 0) {
            return random.nextInt(model.bookieCount);
        }
        return model.ledgers.get(owned.ledger).ensemble.get(random.nextInt(model.n));
    }

    private int downBookie() {
        for (int k = 0; k < model.bookieCount; k++) {
            if (!model.bookies.get(k).up) {
                return k;
            }
        }
        return -1;
    }

    /** Broker, subscription and consumer, where it can be one that is attached. */
    private int[] attachedOne(int b, int s) {
        Model.Owned owned = model.brokers.get(b).owned;
        for (int i = 0; i < 4 && owned != null; i++) {
            for (int c : owned.subscriptions.get((s + i) % 2).permits.keySet()) {
                if (random.nextBoolean()) {
                    return new int[] {b, (s + i) % 2, c};
                }
            }
        }
        return new int[] {b, s, random.nextInt(4)};
    }

    /** Broker, subscription, consumer and position, where it can be what was sent and is not acked. */
    private int[] sentOne(int b, int s) {
        Model.Owned owned = model.brokers.get(b).owned;
        for (int i = 0; i < 4 && owned != null && random.nextInt(16) > 0; i++) {
            Model.SubscriptionModel subscription = owned.subscriptions.get((s + i) % 2);
            for (Map.Entry<Integer, Integer> sent : subscription.sent.entrySet()) {
                if (!subscription.acked.contains(sent.getKey()) && random.nextBoolean()) {
                    return new int[] {b, (s + i) % 2, sent.getValue(), sent.getKey()};
                }
            }
        }
        return new int[] {b, s, random.nextInt(4), random.nextInt(80)};
    }
}
