import java.lang.reflect.InvocationTargetException;
import java.lang.reflect.Method;
import java.util.ArrayList;
import java.util.Arrays;
import java.util.HashMap;
import java.util.List;
import java.util.Map;
import java.util.Random;
import java.util.TreeMap;

/**
 * Random runs of calls, always the same ones, held against Model: every answer, and after every call all that can be
 * asked. So it is seen as well that what throws changes nothing but as said, and that nothing else is ever thrown.
 */
public final class RandomTest {
    private static final int RUNS = 500;
    private static final int CALLS = 512;
    private static final int[] STRANGE = {-1, -2, 4, 6, 10, 80, 101, 1001, Integer.MAX_VALUE, Integer.MIN_VALUE};
    private static final String[] ANY = {"own", "fence", "add", "sync", "close", "open", "publish", "attach", "detach",
        "permit", "send", "ack", "save", "trim", "power", "power", "wipe", "run"};
    private static final String[] CONSUMING = {"attach", "permit", "send", "send", "send", "ack", "ack", "ack"};
    /** What gets a broker on, by its phase. */
    private static final String[][] USEFUL = {
        {"own"},
        {"fence", "fence", "fence", "add", "close"},
        {"open", "open", "save", "trim"},
        {"publish", "publish", "publish", "add", "add", "add", "sync", "sync", "close"},
    };
    private static final Map<String, Method> REAL = methodsOf(TopicLedgers.class);
    private static final Map<String, Method> DUE = methodsOf(Model.class);

    private final Random random;
    private final TopicLedgers topic;
    private final Model model;

    private RandomTest(int seed) {
        random = new Random(seed);
        int[] sizes = {random.nextInt(5) + 2, random.nextInt(5), random.nextInt(4), random.nextInt(4)};
        topic = new TopicLedgers(sizes[0], sizes[1], sizes[2], sizes[3]);
        model = new Model(sizes[0], sizes[1], sizes[2], sizes[3]);
    }

    public static void main(String[] args) {
        Map<String, Integer> seen = new TreeMap<>();
        for (int seed = 0; seed < RUNS; seed++) {
            RandomTest test = new RandomTest(seed);
            for (int i = 0; i < CALLS; i++) {
                String wrong = test.step(seen);
                if (wrong != null) {
                    System.out.println("run " + seed + ", call " + i + ": " + wrong);
                    System.exit(1);
                }
            }
        }
        if (args.length > 0) {
            seen.forEach((what, count) -> System.out.println(what + " " + count));
        }
        System.out.println(RUNS + " runs of " + CALLS + " calls are as the model's");
    }

    private static Map<String, Method> methodsOf(Class<?> type) {
        Map<String, Method> methods = new HashMap<>();
        for (String name : ANY) {
            for (Method method : type.getDeclaredMethods()) {
                if (method.getName().equals(name)) {
                    methods.put(name, method);
                }
            }
        }
        return methods;
    }

    private String step(Map<String, Integer> seen) {
        int b = model.owner >= 0 && random.nextInt(10) < 7 ? model.owner : random.nextInt(3);
        String name = someName(b);
        Object[] arguments = arguments(name, b);
        String call = name + Arrays.toString(arguments);
        String due = invoke(DUE.get(name), model, arguments);
        String got = invoke(REAL.get(name), topic, arguments);
        seen.merge(name + (due.matches("-?\\d+|null") ? "" : " " + due), 1, Integer::sum);
        if (!got.equals(due)) {
            return call + " -> " + got + ", due is " + due;
        }
        String difference = difference();
        return difference == null ? null : "after " + call + ": " + difference;
    }

    private String someName(int b) {
        int kind = random.nextInt(20);
        if (kind == 0) {
            return ANY[random.nextInt(ANY.length)];
        }
        if (!model.brokers.get(b).up && kind < 12) {
            return "run";
        }
        if (kind == 1 && downBookie() >= 0) {
            return random.nextInt(3) == 0 ? "wipe" : "power";
        }
        int phase = model.brokers.get(b).phase();
        String[] names = kind < 8 && phase != Model.OUT ? CONSUMING : USEFUL[phase];
        // A broker that is not the owner is seldom made one, or the owner would get nowhere.
        return phase == Model.OUT && b != model.owner && model.owner >= 0 && kind < 18 ? "sync" : names[random.nextInt(names.length)];
    }

    private Object[] arguments(String name, int b) {
        int[] x = numbers(name, b);
        if (x.length > 0 && random.nextInt(25) == 0) {
            x[random.nextInt(x.length)] = STRANGE[random.nextInt(STRANGE.length)];
        }
        List<Object> all = new ArrayList<>();
        for (int number : x) {
            all.add(number);
        }
        if (name.equals("ack")) {
            all.add(random.nextInt(3) == 0);
        } else if (name.equals("power")) {
            all.add(x[0] >= 0 && x[0] < model.bookieCount ? model.bookies.get(x[0]).up == (random.nextInt(9) == 0) : true);
        } else if (name.equals("run")) {
            all.add(x[0] >= 0 && x[0] < 3 ? model.brokers.get(x[0]).up == (random.nextInt(9) == 0) : true);
        }
        return all.toArray();
    }

    private int[] numbers(String name, int b) {
        int s = random.nextInt(2);
        int c = name.equals("permit") ? attachedOne(b, s) : random.nextInt(4);
        switch (name) {
            case "fence": case "add": case "open":
                return new int[] {b, someBookie(b)};
            case "sync":
                return new int[] {someBookie(b)};
            case "power": case "wipe":
                return new int[] {downBookie() >= 0 && random.nextInt(8) > 0 ? downBookie() : someBookie(b)};
            case "publish":
                return new int[] {b, random.nextInt(4), 1 + model.messages.size() / 2 + random.nextInt(8), random.nextInt()};
            case "attach": case "detach":
                return new int[] {b, s, c};
            case "permit":
                return new int[] {b, s, c, 1 + random.nextInt(3)};
            case "send":
                return new int[] {b, s};
            case "ack":
                return sentOne(b, s, c);
            default:
                return new int[] {b};
        }
    }

    private int someBookie(int b) {
        Model.Owned owned = model.brokers.get(b).owned;
        if (owned == null || owned.ledger < 0 || random.nextInt(20) == 0) {
            return random.nextInt(model.bookieCount);
        }
        return model.ledgers.get(owned.ledger).ensemble.get(random.nextInt(model.n));
    }

    private int downBookie() {
        for (int k = 0; k < model.bookieCount; k++) {
            if (!model.bookies.get(k).up) {
                return k;
            }
        }
        return -1;
    }

    private int attachedOne(int b, int s) {
        Model.Owned owned = model.brokers.get(b).owned;
        if (owned != null) {
            for (int c : owned.subscriptions.get(s).permits.keySet()) {
                if (random.nextBoolean()) {
                    return c;
                }
            }
        }
        return random.nextInt(4);
    }

    private int[] sentOne(int b, int s, int c) {
        Model.Owned owned = model.brokers.get(b).owned;
        if (owned != null && random.nextInt(8) > 0) {
            for (Map.Entry<Integer, Integer> sent : owned.subscriptions.get(s).sent.entrySet()) {
                if (!owned.subscriptions.get(s).acked.contains(sent.getKey()) && random.nextBoolean()) {
                    return new int[] {b, s, sent.getValue(), sent.getKey()};
                }
            }
        }
        return new int[] {b, s, c, random.nextInt(80)};
    }

    private static String invoke(Method method, Object target, Object[] arguments) {
        try {
            return String.valueOf(method.invoke(target, arguments));
        } catch (InvocationTargetException e) {
            return e.getCause().getClass().getName();
        } catch (IllegalAccessException e) {
            throw new IllegalStateException(e);
        }
    }

    private static String compare(String call, int got, int due) {
        return call + " = " + got + ", due is " + due;
    }

    private String difference() {
        for (int what = -1; what <= 5; what++) {
            if (topic.meta(what) != model.meta(what)) {
                return compare("meta(" + what + ")", topic.meta(what), model.meta(what));
            }
        }
        for (int l = -1; l <= 10; l++) {
            for (int what = -1; what <= 10; what++) {
                if (topic.ledger(l, what) != model.ledger(l, what)) {
                    return compare("ledger(" + l + ", " + what + ")", topic.ledger(l, what), model.ledger(l, what));
                }
            }
        }
        for (int b = -1; b <= 3; b++) {
            for (int what = -1; what <= 4; what++) {
                if (topic.broker(b, what) != model.broker(b, what)) {
                    return compare("broker(" + b + ", " + what + ")", topic.broker(b, what), model.broker(b, what));
                }
            }
        }
        String difference = differenceOfBookies();
        return difference != null ? difference : differenceOfMessages();
    }

    private String differenceOfBookies() {
        for (int k = -1; k <= 6; k++) {
            for (int position = -1; position <= 8 * model.ledgers.size(); position++) {
                if (topic.entry(k, position) != model.entry(k, position)) {
                    return compare("entry(" + k + ", " + position + ")", topic.entry(k, position), model.entry(k, position));
                }
            }
            for (int l = -1; l <= 10; l++) {
                if (topic.fenced(k, l) != model.fenced(k, l)) {
                    return "fenced(" + k + ", " + l + ") = " + topic.fenced(k, l);
                }
            }
        }
        return null;
    }

    private String differenceOfMessages() {
        for (int b = -2; b <= 3; b++) {
            for (int s = -1; s <= 2; s++) {
                for (int position = -1; position <= 8 * model.ledgers.size(); position++) {
                    if (topic.acked(b, s, position) != model.acked(b, s, position)) {
                        return "acked(" + b + ", " + s + ", " + position + ") = " + topic.acked(b, s, position);
                    }
                }
            }
        }
        for (int p = -1; p <= 4; p++) {
            if (topic.heard(p) != model.heard(p)) {
                return compare("heard(" + p + ")", topic.heard(p), model.heard(p));
            }
        }
        for (int m = model.messages.size(); m <= model.messages.size() + 1; m++) {
            for (int what = -1; what <= 3; what++) {
                if (topic.message(m, what) != model.message(m, what)) {
                    return compare("message(" + m + ", " + what + ")", topic.message(m, what), model.message(m, what));
                }
            }
        }
        return null;
    }
}
