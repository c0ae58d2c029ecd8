import java.util.ArrayList;
import java.util.HashMap;
import java.util.HashSet;
import java.util.List;
import java.util.Map;
import java.util.NoSuchElementException;
import java.util.Set;
import java.util.TreeMap;
import java.util.TreeSet;

/**
 * The document once more, with sets and maps and in its own words, to hold the class against in RandomTest. Here a
 * bookie and a broker have messages of their own for the entries, and nothing is held in bits.
 */
final class Model {
    static final int OUT = 0;
    static final int RECOVERING = 1;
    static final int READY = 2;
    static final int WRITING = 3;

    final int bookieCount;
    final int n;
    final int w;
    final int a;
    int version;
    int owner = -1;
    int base;
    final List<LedgerMeta> ledgers = new ArrayList<>();
    final List<Set<Integer>> saved = List.of(new TreeSet<>(), new TreeSet<>());
    final List<int[]> messages = new ArrayList<>();
    final int[] heard = new int[4];
    final List<BookieModel> bookies = new ArrayList<>();
    final List<BrokerModel> brokers = new ArrayList<>();

    static final class LedgerMeta {
        final List<Integer> ensemble = new ArrayList<>();
        int state;
        int last = -1;
        final int[] latest = new int[4];
    }

    static final class BookieModel {
        boolean up = true;
        final Map<Integer, Integer> entries = new TreeMap<>();
        final Set<Integer> unsynced = new HashSet<>();
        final Set<Integer> fences = new HashSet<>();
    }

    static final class BrokerModel {
        boolean up = true;
        Owned owned;

        int phase() {
            return owned == null ? OUT : owned.phase;
        }
    }

    /** What a broker has that is not OUT. */
    static final class Owned {
        int phase;
        int version;
        int ledger = -1;
        List<Integer> entries = new ArrayList<>();
        List<Set<Integer>> told = new ArrayList<>();
        int confirmed;
        Map<Integer, Map<Integer, Integer>> replies = new HashMap<>();
        Map<Integer, Set<Integer>> givenSince = new HashMap<>();
        final List<SubscriptionModel> subscriptions = List.of(new SubscriptionModel(), new SubscriptionModel());
    }

    static final class SubscriptionModel {
        final Set<Integer> acked = new TreeSet<>();
        final Map<Integer, Integer> sent = new HashMap<>();
        final Map<Integer, Integer> permits = new TreeMap<>();
        int turn;
    }

    Model(int bookies, int ensemble, int write, int ack) {
        bookieCount = nearest(bookies, 3, 6);
        n = nearest(ensemble, 1, bookieCount > 4 ? 4 : bookieCount);
        w = nearest(write, 1, n);
        a = nearest(ack, 1, w);
        for (int k = 0; k < bookieCount; k++) {
            this.bookies.add(new BookieModel());
        }
        for (int b = 0; b < 3; b++) {
            brokers.add(new BrokerModel());
        }
    }

    private static int nearest(int x, int low, int high) {
        return x < low ? low : x > high ? high : x;
    }

    private static void argument(boolean fine) {
        if (!fine) {
            throw new IllegalArgumentException();
        }
    }

    private static void state(boolean fine) {
        if (!fine) {
            throw new IllegalStateException();
        }
    }

    private static boolean in(int x, int low, int high) {
        return low <= x && x <= high;
    }

    private List<Integer> writeSet(int l, int e) {
        List<Integer> set = new ArrayList<>();
        for (int i = 0; i < w; i++) {
            set.add(ledgers.get(l).ensemble.get((e + i) % n));
        }
        return set;
    }

    private boolean outdated(BrokerModel broker) {
        if (version <= broker.owned.version) {
            return false;
        }
        broker.owned = null;
        return true;
    }

    private void change(BrokerModel broker) {
        if (outdated(broker)) {
            throw new UnsupportedOperationException();
        }
        version++;
        broker.owned.version++;
    }

    int own(int b) {
        argument(in(b, 0, 2));
        BrokerModel broker = brokers.get(b);
        state(broker.up);
        version++;
        owner = b;
        broker.owned = new Owned();
        broker.owned.version = version;
        broker.owned.phase = READY;
        for (int s = 0; s < 2; s++) {
            broker.owned.subscriptions.get(s).acked.addAll(saved.get(s));
        }
        for (int l = 0; l < ledgers.size(); l++) {
            if (ledgers.get(l).state != 2) {
                ledgers.get(l).state = 1;
                broker.owned.phase = RECOVERING;
                broker.owned.ledger = l;
            }
        }
        return broker.owned.phase;
    }

    private void pair(int b, int k) {
        argument(in(b, 0, 2) && in(k, 0, bookieCount - 1));
        Owned owned = brokers.get(b).owned;
        argument(owned == null || owned.ledger < 0 || ledgers.get(owned.ledger).ensemble.contains(k));
        state(brokers.get(b).up && bookies.get(k).up && owned != null);
    }

    int fence(int b, int k) {
        pair(b, k);
        Owned owned = brokers.get(b).owned;
        state(owned.phase == RECOVERING);
        sync(k);
        bookies.get(k).fences.add(owned.ledger);
        Map<Integer, Integer> reply = new TreeMap<>();
        for (Map.Entry<Integer, Integer> entry : bookies.get(k).entries.entrySet()) {
            if (entry.getKey() / 8 == owned.ledger) {
                reply.put(entry.getKey() % 8, entry.getValue());
            }
        }
        owned.replies.put(k, reply);
        owned.givenSince.remove(k);
        return reply.size();
    }

    private boolean enough(Owned owned) {
        for (int place = 0; place < n; place++) {
            int count = 0;
            for (int i = 0; i < w; i++) {
                count += owned.replies.containsKey(ledgers.get(owned.ledger).ensemble.get((place + i) % n)) ? 1 : 0;
            }
            if (count < w - a + 1) {
                return false;
            }
        }
        return true;
    }

    private List<Integer> found(Owned owned) {
        List<Integer> found = new ArrayList<>();
        for (int e = 0; e < 6; e++) {
            Integer message = null;
            for (Map<Integer, Integer> reply : owned.replies.values()) {
                message = reply.containsKey(e) ? reply.get(e) : message;
            }
            if (message == null) {
                return found;
            }
            found.add(message);
        }
        return found;
    }

    private boolean safe(Owned owned) {
        for (int e = 0; e < found(owned).size(); e++) {
            int count = 0;
            for (int k : writeSet(owned.ledger, e)) {
                boolean replied = owned.replies.containsKey(k) && owned.replies.get(k).containsKey(e);
                boolean given = owned.givenSince.containsKey(k) && owned.givenSince.get(k).contains(e);
                count += replied || given ? 1 : 0;
            }
            if (count < a) {
                return false;
            }
        }
        return true;
    }

    int add(int b, int k) {
        pair(b, k);
        Owned owned = brokers.get(b).owned;
        BookieModel bookie = bookies.get(k);
        state(owned.phase == WRITING || owned.phase == RECOVERING && enough(owned));
        if (owned.phase == WRITING ? bookie.fences.contains(owned.ledger) : version > owned.version) {
            brokers.get(b).owned = null;
            throw new UnsupportedOperationException();
        }
        List<Integer> entries = owned.phase == WRITING ? owned.entries : found(owned);
        int count = 0;
        for (int e = 0; e < entries.size(); e++) {
            int position = 8 * owned.ledger + e;
            if (writeSet(owned.ledger, e).contains(k) && !bookie.entries.containsKey(position)) {
                count++;
                bookie.entries.put(position, entries.get(e));
                if (owned.phase == WRITING) {
                    bookie.unsynced.add(position);
                } else {
                    owned.givenSince.computeIfAbsent(k, x -> new HashSet<>()).add(e);
                }
            }
        }
        return count;
    }

    int sync(int k) {
        argument(in(k, 0, bookieCount - 1));
        BookieModel bookie = bookies.get(k);
        state(bookie.up);
        int count = bookie.unsynced.size();
        bookie.unsynced.clear();
        for (BrokerModel broker : brokers) {
            if (broker.phase() == WRITING) {
                tell(broker.owned, k);
            }
        }
        return count;
    }

    private void tell(Owned owned, int k) {
        for (int e = 0; e < owned.entries.size(); e++) {
            if (bookies.get(k).entries.containsKey(8 * owned.ledger + e)) {
                owned.told.get(e).add(k);
            }
        }
        while (owned.confirmed < owned.entries.size() && owned.told.get(owned.confirmed).size() >= a) {
            int[] message = messages.get(owned.entries.get(owned.confirmed) - 1);
            heard[message[0]] = Math.max(heard[message[0]], message[1]);
            owned.confirmed++;
        }
    }

    int close(int b) {
        argument(in(b, 0, 2));
        BrokerModel broker = brokers.get(b);
        Owned owned = broker.owned;
        state(owned != null && owned.phase != READY);
        state(owned.phase == WRITING ? owned.confirmed == owned.entries.size() : enough(owned) && safe(owned));
        List<Integer> entries = owned.phase == WRITING ? owned.entries : found(owned);
        change(broker);
        LedgerMeta ledger = ledgers.get(owned.ledger);
        ledger.state = 2;
        ledger.last = entries.size() - 1;
        for (int p = 0; p < 4; p++) {
            ledger.latest[p] = known(owned.ledger, p, entries);
        }
        owned.phase = READY;
        owned.ledger = -1;
        owned.entries = new ArrayList<>();
        owned.told = new ArrayList<>();
        owned.confirmed = 0;
        owned.replies = new HashMap<>();
        owned.givenSince = new HashMap<>();
        return ledger.last;
    }

    private int known(int l, int p, List<Integer> entries) {
        int greatest = l == 0 ? 0 : ledgers.get(l - 1).latest[p];
        for (int m : entries) {
            if (messages.get(m - 1)[0] == p && messages.get(m - 1)[1] > greatest) {
                greatest = messages.get(m - 1)[1];
            }
        }
        return greatest;
    }

    int open(int b, int k) {
        argument(in(b, 0, 2) && in(k, 0, bookieCount - 1));
        BrokerModel broker = brokers.get(b);
        state(broker.phase() == READY);
        if (outdated(broker)) {
            throw new UnsupportedOperationException();
        }
        LedgerMeta ledger = new LedgerMeta();
        for (int i = 0; i < bookieCount; i++) {
            int next = (k + i) % bookieCount;
            if (bookies.get(next).up && ledger.ensemble.size() < n) {
                ledger.ensemble.add(next);
            }
        }
        if (ledgers.size() == 10 || ledger.ensemble.size() < n) {
            throw new IndexOutOfBoundsException();
        }
        change(broker);
        broker.owned.phase = WRITING;
        broker.owned.ledger = ledgers.size();
        ledgers.add(ledger);
        return broker.owned.ledger;
    }

    int publish(int b, int p, int q, int v) {
        argument(in(b, 0, 2) && in(p, 0, 3) && in(q, 1, 1000));
        Owned owned = brokers.get(b).owned;
        state(owned != null && owned.phase == WRITING);
        if (q <= known(owned.ledger, p, owned.entries)) {
            if (q > known(owned.ledger, p, owned.entries.subList(0, owned.confirmed))) {
                return -1;
            }
            heard[p] = Math.max(heard[p], q);
            return -2;
        }
        if (owned.entries.size() == 6 || messages.size() == 60) {
            throw new IndexOutOfBoundsException();
        }
        messages.add(new int[] {p, q, v});
        owned.entries.add(messages.size());
        owned.told.add(new HashSet<>());
        return 8 * owned.ledger + owned.entries.size() - 1;
    }

    private SubscriptionModel subscription(int b, int s, int c) {
        argument(in(b, 0, 2) && in(s, 0, 1) && in(c, 0, 3));
        state(brokers.get(b).owned != null);
        return brokers.get(b).owned.subscriptions.get(s);
    }

    void attach(int b, int s, int c) {
        SubscriptionModel subscription = subscription(b, s, c);
        state(!subscription.permits.containsKey(c));
        subscription.permits.put(c, 0);
    }

    void detach(int b, int s, int c) {
        SubscriptionModel subscription = subscription(b, s, c);
        state(subscription.permits.containsKey(c));
        subscription.permits.remove(c);
        subscription.sent.entrySet().removeIf(x -> x.getValue() == c && !subscription.acked.contains(x.getKey()));
    }

    void permit(int b, int s, int c, int number) {
        argument(in(number, 1, 100));
        SubscriptionModel subscription = subscription(b, s, c);
        state(subscription.permits.containsKey(c));
        subscription.permits.put(c, Math.min(1000, subscription.permits.get(c) + number));
    }

    private List<Integer> chain(Owned owned) {
        List<Integer> chain = new ArrayList<>();
        for (int l = base; l < ledgers.size(); l++) {
            boolean closed = ledgers.get(l).state == 2;
            int end = closed ? ledgers.get(l).last + 1 : owned.phase == WRITING && owned.ledger == l ? owned.confirmed : 0;
            for (int e = 0; e < end; e++) {
                chain.add(8 * l + e);
            }
        }
        return chain;
    }

    int send(int b, int s) {
        SubscriptionModel subscription = subscription(b, s, 0);
        int position = -1;
        for (int next : chain(brokers.get(b).owned)) {
            if (position < 0 && !subscription.acked.contains(next) && !subscription.sent.containsKey(next)) {
                position = next;
            }
        }
        int consumer = -1;
        if (s == 0) {
            int lowest = subscription.permits.isEmpty() ? -1 : subscription.permits.keySet().iterator().next();
            consumer = lowest >= 0 && subscription.permits.get(lowest) > 0 ? lowest : -1;
        } else {
            for (int i = 3; i >= 0; i--) {
                int next = (subscription.turn + i) % 4;
                consumer = subscription.permits.getOrDefault(next, 0) > 0 ? next : consumer;
            }
        }
        boolean readable = false;
        if (position >= 0) {
            for (int k : writeSet(position / 8, position % 8)) {
                readable |= bookies.get(k).up && bookies.get(k).entries.containsKey(position);
            }
        }
        if (consumer < 0 || !readable) {
            throw new NoSuchElementException();
        }
        subscription.sent.put(position, consumer);
        subscription.permits.put(consumer, subscription.permits.get(consumer) - 1);
        subscription.turn = consumer + 1;
        return 100 * consumer + position;
    }

    int ack(int b, int s, int c, int position, boolean all) {
        SubscriptionModel subscription = subscription(b, s, c);
        if (subscription.sent.getOrDefault(position, -1) != c || subscription.acked.contains(position)) {
            throw new NoSuchElementException();
        }
        int before = subscription.acked.size();
        subscription.acked.add(position);
        if (all) {
            for (int next : chain(brokers.get(b).owned)) {
                if (next < position) {
                    subscription.acked.add(next);
                }
            }
        }
        return subscription.acked.size() - before;
    }

    int save(int b) {
        subscription(b, 0, 0);
        change(brokers.get(b));
        int count = 0;
        for (int s = 0; s < 2; s++) {
            int before = saved.get(s).size();
            saved.get(s).addAll(brokers.get(b).owned.subscriptions.get(s).acked);
            count += saved.get(s).size() - before;
        }
        return count;
    }

    int trim(int b) {
        subscription(b, 0, 0);
        change(brokers.get(b));
        int count = 0;
        while (base < ledgers.size() && ledgers.get(base).state == 2) {
            for (int e = 0; e <= ledgers.get(base).last; e++) {
                if (!saved.get(0).contains(8 * base + e) || !saved.get(1).contains(8 * base + e)) {
                    return count;
                }
            }
            int trimmed = base;
            for (BookieModel bookie : bookies) {
                if (bookie.up) {
                    bookie.entries.keySet().removeIf(x -> x / 8 == trimmed);
                    bookie.unsynced.removeIf(x -> x / 8 == trimmed);
                }
            }
            base++;
            count++;
        }
        return count;
    }

    void power(int k, boolean up) {
        argument(in(k, 0, bookieCount - 1));
        BookieModel bookie = bookies.get(k);
        state(bookie.up != up);
        bookie.up = up;
        bookie.entries.keySet().removeAll(bookie.unsynced);
        bookie.unsynced.clear();
    }

    void wipe(int k) {
        argument(in(k, 0, bookieCount - 1));
        state(!bookies.get(k).up);
        bookies.get(k).entries.clear();
        bookies.get(k).fences.clear();
    }

    void run(int b, boolean up) {
        argument(in(b, 0, 2));
        state(brokers.get(b).up != up);
        brokers.get(b).up = up;
        brokers.get(b).owned = null;
    }

    int meta(int what) {
        int[] all = {version, owner, ledgers.size(), base, messages.size()};
        return in(what, 0, 4) ? all[what] : -1;
    }

    int ledger(int l, int what) {
        if (!in(l, 0, ledgers.size() - 1) || !in(what, 0, 9)) {
            return -2;
        }
        LedgerMeta ledger = ledgers.get(l);
        if (what == 0) {
            return ledger.state;
        }
        if (what == 1) {
            return ledger.state == 2 ? ledger.last : -1;
        }
        if (what <= 5) {
            return what - 2 < n ? ledger.ensemble.get(what - 2) : -1;
        }
        return ledger.state == 2 ? ledger.latest[what - 6] : 0;
    }

    int entry(int k, int position) {
        if (!in(k, 0, bookieCount - 1)) {
            return 0;
        }
        int message = bookies.get(k).entries.getOrDefault(position, 0);
        return bookies.get(k).unsynced.contains(position) ? message + 100 : message;
    }

    int broker(int b, int what) {
        if (!in(b, 0, 2) || !in(what, 0, 3)) {
            return -2;
        }
        BrokerModel broker = brokers.get(b);
        Owned owned = broker.owned;
        if (what == 0) {
            return broker.up ? broker.phase() : -1;
        }
        if (what == 1) {
            return owned == null ? -1 : owned.ledger;
        }
        if (what == 3) {
            return owned == null ? 0 : owned.version;
        }
        if (broker.phase() == WRITING) {
            return owned.confirmed;
        }
        return broker.phase() == RECOVERING && enough(owned) ? found(owned).size() : 0;
    }

    int message(int m, int what) {
        return in(m, 1, messages.size()) && in(what, 0, 2) ? messages.get(m - 1)[what] : 0;
    }

    int heard(int p) {
        return in(p, 0, 3) ? heard[p] : 0;
    }

    boolean acked(int b, int s, int position) {
        if (!in(b, -1, 2) || !in(s, 0, 1)) {
            return false;
        }
        if (b == -1) {
            return saved.get(s).contains(position);
        }
        return brokers.get(b).owned != null && brokers.get(b).owned.subscriptions.get(s).acked.contains(position);
    }

    boolean fenced(int k, int l) {
        return in(k, 0, bookieCount - 1) && bookies.get(k).fences.contains(l);
    }
}
