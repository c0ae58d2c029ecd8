import java.util.Arrays;
import java.util.NoSuchElementException;

public final class TopicLedgers {
    private static final int NONE = -1;
    private static final int BROKERS = 3;
    private static final int PRODUCERS = 4;
    private static final int CONSUMERS = 4;
    private static final int SUBSCRIPTIONS = 2;
    private static final int LEDGERS = 10;
    private static final int ENTRIES = 6;
    private static final int MESSAGES = 60;
    private static final int MAX_BOOKIES = 6;
    private static final int MAX_ENSEMBLE = 4;
    private static final int MAX_SEQUENCE = 1000;
    private static final int MAX_NEW_PERMITS = 100;
    private static final int MAX_PERMITS = 1000;
    private static final int POSITIONS_A_LEDGER = 8;
    private static final int POSITIONS = LEDGERS * POSITIONS_A_LEDGER;

    private static final int OPEN = 0;
    private static final int FENCING = 1;
    private static final int CLOSED = 2;

    private static final int OUT = 0;
    private static final int RECOVERING = 1;
    private static final int READY = 2;
    private static final int WRITING = 3;

    private final int ensembleSize;
    private final int writeSize;
    private final int ackSize;
    private final Meta metadata;
    private final Messages messages;
    private final Bookie[] bookies;
    private final Broker[] brokers;
    private final int[] heardBy;

    public TopicLedgers(int bookies, int ensemble, int write, int ack) {
        int size = bring(bookies, 3, MAX_BOOKIES);
        ensembleSize = bring(ensemble, 1, Math.min(size, MAX_ENSEMBLE));
        writeSize = bring(write, 1, ensembleSize);
        ackSize = bring(ack, 1, writeSize);
        metadata = new Meta();
        messages = new Messages();
        this.bookies = new Bookie[size];
        for (int k = 0; k < size; k++) {
            this.bookies[k] = new Bookie();
        }
        brokers = new Broker[BROKERS];
        for (int b = 0; b < BROKERS; b++) {
            brokers[b] = new Broker();
        }
        heardBy = new int[PRODUCERS];
    }

    public int own(int b) throws IllegalArgumentException, IllegalStateException {
        Broker broker = findBroker(b);
        checkState(broker.up);
        metadata.version++;
        metadata.owner = b;
        broker.forgetAll();
        broker.version = metadata.version;
        broker.phase = READY;
        for (int s = 0; s < SUBSCRIPTIONS; s++) {
            broker.deliveries[s].acked.include(metadata.saved[s]);
        }
        int newest = metadata.ledgerCount - 1;
        if (newest >= 0 && metadata.ledgers[newest].state != CLOSED) {
            metadata.ledgers[newest].state = FENCING;
            broker.phase = RECOVERING;
            broker.ledger = newest;
        }
        return broker.phase;
    }

    public int fence(int b, int k) throws IllegalArgumentException, IllegalStateException {
        Broker broker = findBroker(b);
        Bookie bookie = findBookie(k);
        checkInEnsemble(broker, k);
        checkState(bookie.up && broker.phase == RECOVERING);
        syncAndTell(k);
        bookie.fences |= 1 << broker.ledger;
        int has = bookie.has[broker.ledger];
        broker.takeReply(k, has);
        return Integer.bitCount(has);
    }

    public int add(int b, int k)
            throws IllegalArgumentException, IllegalStateException, UnsupportedOperationException {
        Broker broker = findBroker(b);
        Bookie bookie = findBookie(k);
        checkInEnsemble(broker, k);
        checkState(bookie.up && (broker.phase == WRITING || hasEnough(broker)));
        if (broker.phase == WRITING) {
            checkNotFencedOff(broker, bookie);
            return Integer.bitCount(bookie.give(broker.ledger, entriesFor(k, broker, broker.entries), false));
        }
        checkVersion(broker);
        int given = bookie.give(broker.ledger, entriesFor(k, broker, broker.countFound()), true);
        broker.synced[k] |= given;
        return Integer.bitCount(given);
    }

    public int sync(int k) throws IllegalArgumentException, IllegalStateException {
        Bookie bookie = findBookie(k);
        checkState(bookie.up);
        return syncAndTell(k);
    }

    public int close(int b)
            throws IllegalArgumentException, IllegalStateException, UnsupportedOperationException {
        Broker broker = findBroker(b);
        checkState(isClosable(broker));
        changeMeta(broker);
        int l = broker.ledger;
        int count = broker.phase == WRITING ? broker.entries : broker.countFound();
        Ledger ledger = metadata.ledgers[l];
        ledger.state = CLOSED;
        ledger.last = count - 1;
        for (int p = 0; p < PRODUCERS; p++) {
            ledger.latest[p] = greatestSequence(l, p, count);
        }
        broker.phase = READY;
        broker.forgetLedger();
        return ledger.last;
    }

    public int open(int b, int k)
            throws IllegalArgumentException, IllegalStateException, UnsupportedOperationException,
            IndexOutOfBoundsException {
        Broker broker = findBroker(b);
        findBookie(k);
        checkState(broker.phase == READY);
        checkVersion(broker);
        checkRoom(metadata.ledgerCount < LEDGERS && countUp() >= ensembleSize);
        changeMeta(broker);
        int l = metadata.ledgerCount;
        metadata.ledgerCount++;
        chooseEnsemble(metadata.ledgers[l], k);
        metadata.ledgers[l].findWriteSets(writeSize);
        broker.phase = WRITING;
        broker.ledger = l;
        return l;
    }

    public int publish(int b, int p, int q, int v)
            throws IllegalArgumentException, IllegalStateException, IndexOutOfBoundsException {
        Broker broker = findBroker(b);
        checkArgument(isWithin(p, PRODUCERS) && q >= 1 && q <= MAX_SEQUENCE);
        checkState(broker.phase == WRITING);
        if (q <= greatestSequence(broker.ledger, p, broker.entries)) {
            return answerRepeated(broker, p, q);
        }
        checkRoom(broker.entries < ENTRIES && messages.count < MESSAGES);
        int position = positionOf(broker.ledger, broker.entries);
        messages.append(position, p, q, v);
        broker.entries++;
        return position;
    }

    public void attach(int b, int s, int c) throws IllegalArgumentException, IllegalStateException {
        Broker broker = findBroker(b);
        checkArgument(isWithin(s, SUBSCRIPTIONS) && isWithin(c, CONSUMERS));
        checkState(broker.phase != OUT && !broker.deliveries[s].isAttached(c));
        broker.deliveries[s].take(c);
    }

    public void detach(int b, int s, int c) throws IllegalArgumentException, IllegalStateException {
        attachedDelivery(b, s, c).drop(c);
    }

    public void permit(int b, int s, int c, int n) throws IllegalArgumentException, IllegalStateException {
        checkArgument(n >= 1 && n <= MAX_NEW_PERMITS);
        Delivery delivery = attachedDelivery(b, s, c);
        delivery.permits[c] = Math.min(delivery.permits[c] + n, MAX_PERMITS);
    }

    public int send(int b, int s)
            throws IllegalArgumentException, IllegalStateException, NoSuchElementException {
        Broker broker = findBroker(b);
        checkArgument(isWithin(s, SUBSCRIPTIONS));
        checkState(broker.phase != OUT);
        Delivery delivery = broker.deliveries[s];
        int position = firstToSend(broker, delivery);
        int c = s == 0 ? delivery.lowestConsumer() : delivery.nextConsumer();
        checkElement(position != NONE && c != NONE && isReadable(position));
        delivery.deliver(position, c);
        return 100 * c + position;
    }

    public int ack(int b, int s, int c, int position, boolean all)
            throws IllegalArgumentException, IllegalStateException, NoSuchElementException {
        Broker broker = findBroker(b);
        checkArgument(isWithin(s, SUBSCRIPTIONS) && isWithin(c, CONSUMERS));
        checkState(broker.phase != OUT);
        Delivery delivery = broker.deliveries[s];
        checkElement(delivery.isSentTo(position, c) && !delivery.acked.contains(position));
        int count = delivery.acked.includeOne(position);
        return all ? count + ackBefore(broker, delivery, position) : count;
    }

    public int save(int b)
            throws IllegalArgumentException, IllegalStateException, UnsupportedOperationException {
        Broker broker = findBroker(b);
        checkState(broker.phase != OUT);
        changeMeta(broker);
        int count = 0;
        for (int s = 0; s < SUBSCRIPTIONS; s++) {
            count += metadata.saved[s].include(broker.deliveries[s].acked);
        }
        return count;
    }

    public int trim(int b)
            throws IllegalArgumentException, IllegalStateException, UnsupportedOperationException {
        Broker broker = findBroker(b);
        checkState(broker.phase != OUT);
        changeMeta(broker);
        int first = metadata.base;
        while (metadata.base < metadata.ledgerCount && metadata.isDone(metadata.base)) {
            dropFromBookies(metadata.base);
            metadata.base++;
        }
        return metadata.base - first;
    }

    public void power(int k, boolean up) throws IllegalArgumentException, IllegalStateException {
        Bookie bookie = findBookie(k);
        checkState(bookie.up != up);
        bookie.up = up;
        if (!up) {
            bookie.loseUnsynced();
        }
    }

    public void wipe(int k) throws IllegalArgumentException, IllegalStateException {
        Bookie bookie = findBookie(k);
        checkState(!bookie.up);
        bookie.loseAll();
    }

    public void run(int b, boolean up) throws IllegalArgumentException, IllegalStateException {
        Broker broker = findBroker(b);
        checkState(broker.up != up);
        broker.up = up;
        broker.forgetAll();
    }

    public int meta(int what) {
        switch (what) {
            case 0:
                return metadata.version;
            case 1:
                return metadata.owner;
            case 2:
                return metadata.ledgerCount;
            case 3:
                return metadata.base;
            case 4:
                return messages.count;
            default:
                return -1;
        }
    }

    public int ledger(int l, int what) {
        if (!isWithin(l, metadata.ledgerCount) || !isWithin(what, 2 + MAX_ENSEMBLE + PRODUCERS)) {
            return -2;
        }
        Ledger ledger = metadata.ledgers[l];
        if (what == 0) {
            return ledger.state;
        }
        if (what == 1) {
            return ledger.last;
        }
        int place = what - 2;
        return place < MAX_ENSEMBLE ? ledger.ensemble[place] : ledger.latest[place - MAX_ENSEMBLE];
    }

    public int entry(int k, int position) {
        if (!isWithin(k, bookies.length) || !isWithin(position, POSITIONS)) {
            return 0;
        }
        int l = ledgerOf(position);
        int e = entryOf(position);
        if (!isIn(bookies[k].has[l], e)) {
            return 0;
        }
        int m = messages.at[position];
        return isIn(bookies[k].synced[l], e) ? m : m + 100;
    }

    public int broker(int b, int what) {
        if (!isWithin(b, BROKERS)) {
            return -2;
        }
        Broker broker = brokers[b];
        switch (what) {
            case 0:
                return broker.up ? broker.phase : -1;
            case 1:
                return broker.ledger;
            case 2:
                return countAgreed(broker);
            case 3:
                return broker.version;
            default:
                return -2;
        }
    }

    public int message(int m, int what) {
        if (m < 1 || m > messages.count) {
            return 0;
        }
        switch (what) {
            case 0:
                return messages.producer[m];
            case 1:
                return messages.sequence[m];
            case 2:
                return messages.value[m];
            default:
                return 0;
        }
    }

    public int heard(int p) {
        return isWithin(p, PRODUCERS) ? heardBy[p] : 0;
    }

    public boolean acked(int b, int s, int position) {
        if (!isWithin(s, SUBSCRIPTIONS)) {
            return false;
        }
        if (b == NONE) {
            return metadata.saved[s].contains(position);
        }
        return isWithin(b, BROKERS) && brokers[b].deliveries[s].acked.contains(position);
    }

    public boolean fenced(int k, int l) {
        return isWithin(k, bookies.length) && isWithin(l, LEDGERS) && isIn(bookies[k].fences, l);
    }

    private static int bring(int number, int least, int most) {
        return Math.max(least, Math.min(number, most));
    }

    private static boolean isWithin(int number, int size) {
        return number >= 0 && number < size;
    }

    private static boolean isIn(int mask, int bit) {
        return (mask >> bit & 1) == 1;
    }

    private static int positionOf(int l, int e) {
        return POSITIONS_A_LEDGER * l + e;
    }

    private static int ledgerOf(int position) {
        return position / POSITIONS_A_LEDGER;
    }

    private static int entryOf(int position) {
        return position % POSITIONS_A_LEDGER;
    }

    private static void checkArgument(boolean asSaid) {
        if (!asSaid) {
            throw new IllegalArgumentException("no such one, or a number is not as said");
        }
    }

    private static void checkState(boolean asAsked) {
        if (!asAsked) {
            throw new IllegalStateException("not up or down, or not in the state, that is asked for");
        }
    }

    private static void checkRoom(boolean room) {
        if (!room) {
            throw new IndexOutOfBoundsException("there is no room");
        }
    }

    private static void checkElement(boolean there) {
        if (!there) {
            throw new NoSuchElementException("there is no such position or consumer");
        }
    }

    private Broker findBroker(int b) {
        checkArgument(isWithin(b, BROKERS));
        return brokers[b];
    }

    private Bookie findBookie(int k) {
        checkArgument(isWithin(k, bookies.length));
        return bookies[k];
    }

    private void checkInEnsemble(Broker broker, int k) {
        checkArgument(broker.ledger == NONE || metadata.ledgers[broker.ledger].isOn(k));
    }

    private void checkNotFencedOff(Broker broker, Bookie bookie) {
        if (isIn(bookie.fences, broker.ledger)) {
            broker.forgetAll();
            throw new UnsupportedOperationException("the broker is fenced off");
        }
    }

    private void checkVersion(Broker broker) {
        if (metadata.version > broker.version) {
            broker.forgetAll();
            throw new UnsupportedOperationException("the broker is outdated");
        }
    }

    private void changeMeta(Broker broker) {
        checkVersion(broker);
        metadata.version++;
        broker.version++;
    }

    private Delivery attachedDelivery(int b, int s, int c) {
        Broker broker = findBroker(b);
        checkArgument(isWithin(s, SUBSCRIPTIONS) && isWithin(c, CONSUMERS));
        checkState(broker.phase != OUT && broker.deliveries[s].isAttached(c));
        return broker.deliveries[s];
    }

    private int syncAndTell(int k) {
        Bookie bookie = bookies[k];
        int count = bookie.syncAll();
        for (int b = 0; b < BROKERS; b++) {
            if (brokers[b].phase == WRITING) {
                brokers[b].hearFrom(k, bookie.has[brokers[b].ledger]);
                confirm(brokers[b]);
            }
        }
        return count;
    }

    private void confirm(Broker broker) {
        while (broker.confirmed < broker.entries && broker.countTold(broker.confirmed) >= ackSize) {
            int m = messages.at[positionOf(broker.ledger, broker.confirmed)];
            hear(messages.producer[m], messages.sequence[m]);
            broker.confirmed++;
        }
    }

    private void hear(int p, int q) {
        heardBy[p] = Math.max(heardBy[p], q);
    }

    private int answerRepeated(Broker broker, int p, int q) {
        if (q > greatestSequence(broker.ledger, p, broker.confirmed)) {
            return -1;
        }
        hear(p, q);
        return -2;
    }

    /** Goes by the ledger before as well: what is latest there counts all ledgers up to it. */
    private int greatestSequence(int l, int p, int entries) {
        int greatest = l > 0 ? metadata.ledgers[l - 1].latest[p] : 0;
        for (int e = 0; e < entries; e++) {
            int m = messages.at[positionOf(l, e)];
            if (messages.producer[m] == p) {
                greatest = Math.max(greatest, messages.sequence[m]);
            }
        }
        return greatest;
    }

    private int entriesFor(int k, Broker broker, int entries) {
        int mask = 0;
        for (int e = 0; e < entries; e++) {
            if (isIn(metadata.ledgers[broker.ledger].writeSets[e], k)) {
                mask |= 1 << e;
            }
        }
        return mask;
    }

    private boolean hasEnough(Broker broker) {
        if (broker.phase != RECOVERING) {
            return false;
        }
        // The W bookies from place i on are the write set of entry i, and there are fewer places than entries.
        for (int i = 0; i < ensembleSize; i++) {
            int asked = metadata.ledgers[broker.ledger].writeSets[i];
            if (Integer.bitCount(asked & broker.replied) < writeSize - ackSize + 1) {
                return false;
            }
        }
        return true;
    }

    private boolean isSafe(Broker broker) {
        int found = broker.countFound();
        for (int e = 0; e < found; e++) {
            if (broker.countSynced(e) < ackSize) {
                return false;
            }
        }
        return true;
    }

    private boolean isClosable(Broker broker) {
        if (broker.phase == WRITING) {
            return broker.confirmed == broker.entries;
        }
        return hasEnough(broker) && isSafe(broker);
    }

    private int countAgreed(Broker broker) {
        if (broker.phase == WRITING) {
            return broker.confirmed;
        }
        return hasEnough(broker) ? broker.countFound() : 0;
    }

    private int countUp() {
        int count = 0;
        for (int k = 0; k < bookies.length; k++) {
            if (bookies[k].up) {
                count++;
            }
        }
        return count;
    }

    private void chooseEnsemble(Ledger ledger, int first) {
        for (int i = 0; i < bookies.length; i++) {
            int k = (first + i) % bookies.length;
            if (bookies[k].up && ledger.places < ensembleSize) {
                ledger.ensemble[ledger.places] = k;
                ledger.places++;
            }
        }
    }

    private int chainLength(Broker broker, int l) {
        Ledger ledger = metadata.ledgers[l];
        if (ledger.state == CLOSED) {
            return ledger.last + 1;
        }
        return broker.phase == WRITING && broker.ledger == l ? broker.confirmed : 0;
    }

    private int firstToSend(Broker broker, Delivery delivery) {
        for (int l = metadata.base; l < metadata.ledgerCount; l++) {
            int length = chainLength(broker, l);
            for (int e = 0; e < length; e++) {
                int position = positionOf(l, e);
                if (!delivery.acked.contains(position) && delivery.sentTo[position] == NONE) {
                    return position;
                }
            }
        }
        return NONE;
    }

    private boolean isReadable(int position) {
        int l = ledgerOf(position);
        int e = entryOf(position);
        for (int k = 0; k < bookies.length; k++) {
            if (bookies[k].up && isIn(metadata.ledgers[l].writeSets[e], k) && isIn(bookies[k].has[l], e)) {
                return true;
            }
        }
        return false;
    }

    private int ackBefore(Broker broker, Delivery delivery, int end) {
        int count = 0;
        for (int l = metadata.base; l < metadata.ledgerCount; l++) {
            int length = Math.min(chainLength(broker, l), end - positionOf(l, 0));
            for (int e = 0; e < length; e++) {
                count += delivery.acked.includeOne(positionOf(l, e));
            }
        }
        return count;
    }

    private void dropFromBookies(int l) {
        for (int k = 0; k < bookies.length; k++) {
            if (bookies[k].up) {
                bookies[k].loseLedger(l);
            }
        }
    }

    private static final class Meta {
        int version;
        int owner = NONE;
        int ledgerCount;
        int base;
        final Ledger[] ledgers = new Ledger[LEDGERS];
        final Positions[] saved = new Positions[SUBSCRIPTIONS];

        Meta() {
            for (int l = 0; l < LEDGERS; l++) {
                ledgers[l] = new Ledger();
            }
            for (int s = 0; s < SUBSCRIPTIONS; s++) {
                saved[s] = new Positions();
            }
        }

        boolean isDone(int l) {
            if (ledgers[l].state != CLOSED) {
                return false;
            }
            for (int e = 0; e <= ledgers[l].last; e++) {
                for (int s = 0; s < SUBSCRIPTIONS; s++) {
                    if (!saved[s].contains(positionOf(l, e))) {
                        return false;
                    }
                }
            }
            return true;
        }
    }

    private static final class Ledger {
        int state = OPEN;
        int last = NONE;
        int places;
        final int[] ensemble = new int[MAX_ENSEMBLE];
        final int[] writeSets = new int[ENTRIES];
        final int[] latest = new int[PRODUCERS];

        Ledger() {
            Arrays.fill(ensemble, NONE);
        }

        boolean isOn(int k) {
            for (int i = 0; i < places; i++) {
                if (ensemble[i] == k) {
                    return true;
                }
            }
            return false;
        }

        void findWriteSets(int size) {
            for (int e = 0; e < ENTRIES && places > 0; e++) {
                for (int i = 0; i < size; i++) {
                    writeSets[e] |= 1 << ensemble[(e + i) % places];
                }
            }
        }
    }

    /** Only the broker that opened a ledger ever writes it, so a position has the same message on all bookies. */
    private static final class Messages {
        int count;
        final int[] producer = new int[MESSAGES + 1];
        final int[] sequence = new int[MESSAGES + 1];
        final int[] value = new int[MESSAGES + 1];
        final int[] at = new int[POSITIONS];

        void append(int position, int p, int q, int v) {
            count++;
            producer[count] = p;
            sequence[count] = q;
            value[count] = v;
            at[position] = count;
        }
    }

    /** Rows go by ledger, a bit for each entry. */
    private static final class Bookie {
        boolean up = true;
        int fences;
        final int[] has = new int[LEDGERS];
        final int[] synced = new int[LEDGERS];

        int give(int l, int entries, boolean syncNow) {
            int given = entries & ~has[l];
            has[l] |= given;
            if (syncNow) {
                synced[l] |= given;
            }
            return given;
        }

        int syncAll() {
            int count = 0;
            for (int l = 0; l < LEDGERS; l++) {
                count += Integer.bitCount(has[l] & ~synced[l]);
                synced[l] = has[l];
            }
            return count;
        }

        void loseUnsynced() {
            for (int l = 0; l < LEDGERS; l++) {
                has[l] = synced[l];
            }
        }

        void loseLedger(int l) {
            has[l] = 0;
            synced[l] = 0;
        }

        void loseAll() {
            fences = 0;
            Arrays.fill(has, 0);
            Arrays.fill(synced, 0);
        }
    }

    private static final class Broker {
        boolean up = true;
        int phase = OUT;
        int version;
        int ledger = NONE;
        int entries;
        int confirmed;
        int replied;
        /** By entry, a bit for each bookie. */
        final int[] told = new int[ENTRIES];
        /** By bookie, a bit for each entry; apart from synced, as what was given is in no reply. */
        final int[] replies = new int[MAX_BOOKIES];
        final int[] synced = new int[MAX_BOOKIES];
        final Delivery[] deliveries = new Delivery[SUBSCRIPTIONS];

        Broker() {
            for (int s = 0; s < SUBSCRIPTIONS; s++) {
                deliveries[s] = new Delivery();
            }
        }

        void forgetAll() {
            phase = OUT;
            version = 0;
            forgetLedger();
            for (int s = 0; s < SUBSCRIPTIONS; s++) {
                deliveries[s].forgetAll();
            }
        }

        void forgetLedger() {
            ledger = NONE;
            entries = 0;
            confirmed = 0;
            replied = 0;
            Arrays.fill(told, 0);
            Arrays.fill(replies, 0);
            Arrays.fill(synced, 0);
        }

        void hearFrom(int k, int has) {
            for (int e = 0; e < entries; e++) {
                if (isIn(has, e)) {
                    told[e] |= 1 << k;
                }
            }
        }

        int countTold(int e) {
            return Integer.bitCount(told[e]);
        }

        void takeReply(int k, int has) {
            replied |= 1 << k;
            replies[k] = has;
            synced[k] = has;
        }

        int countFound() {
            int inSome = 0;
            for (int k = 0; k < MAX_BOOKIES; k++) {
                inSome |= replies[k];
            }
            int count = 0;
            while (count < ENTRIES && isIn(inSome, count)) {
                count++;
            }
            return count;
        }

        int countSynced(int e) {
            int count = 0;
            for (int k = 0; k < MAX_BOOKIES; k++) {
                if (isIn(synced[k], e)) {
                    count++;
                }
            }
            return count;
        }
    }

    private static final class Delivery {
        int attached;
        /** So that the first one in turn is consumer 0. */
        int sentBefore = CONSUMERS - 1;
        final Positions acked = new Positions();
        final int[] permits = new int[CONSUMERS];
        final int[] sentTo = new int[POSITIONS];

        Delivery() {
            Arrays.fill(sentTo, NONE);
        }

        void forgetAll() {
            attached = 0;
            sentBefore = CONSUMERS - 1;
            acked.clear();
            Arrays.fill(sentTo, NONE);
        }

        boolean isAttached(int c) {
            return isIn(attached, c);
        }

        void take(int c) {
            attached |= 1 << c;
            permits[c] = 0;
        }

        void drop(int c) {
            attached &= ~(1 << c);
            for (int position = 0; position < POSITIONS; position++) {
                if (sentTo[position] == c) {
                    sentTo[position] = NONE;
                }
            }
        }

        int lowestConsumer() {
            for (int c = 0; c < CONSUMERS; c++) {
                if (isAttached(c)) {
                    return permits[c] > 0 ? c : NONE;
                }
            }
            return NONE;
        }

        int nextConsumer() {
            for (int i = 1; i <= CONSUMERS; i++) {
                int c = (sentBefore + i) % CONSUMERS;
                if (isAttached(c) && permits[c] > 0) {
                    return c;
                }
            }
            return NONE;
        }

        void deliver(int position, int c) {
            sentTo[position] = c;
            permits[c]--;
            sentBefore = c;
        }

        boolean isSentTo(int position, int c) {
            return isWithin(position, POSITIONS) && sentTo[position] == c;
        }
    }

    /** A set of positions: by ledger, a bit for each entry. */
    private static final class Positions {
        final int[] masks = new int[LEDGERS];

        boolean contains(int position) {
            return isWithin(position, POSITIONS) && isIn(masks[ledgerOf(position)], entryOf(position));
        }

        int includeOne(int position) {
            if (contains(position)) {
                return 0;
            }
            masks[ledgerOf(position)] |= 1 << entryOf(position);
            return 1;
        }

        int include(Positions others) {
            int count = 0;
            for (int l = 0; l < LEDGERS; l++) {
                count += Integer.bitCount(others.masks[l] & ~masks[l]);
                masks[l] |= others.masks[l];
            }
            return count;
        }

        void clear() {
            Arrays.fill(masks, 0);
        }
    }
}
