/** For each promise of the document: ordinary inputs, the edges that it names, wrong inputs. */
public final class PromisesTest {
    private static final Script SCRIPT = new Script();

    public static void main(String[] args) {
        newObject();
        own();
        fence();
        enoughReplies();
        addWriting();
        addRecovering();
        sync();
        closeWriting();
        closeRecovering();
        safeEntries();
        nothingIsLeft();
        open();
        publish();
        attach();
        detach();
        permit();
        send();
        sendChain();
        ack();
        save();
        trim();
        power();
        wipe();
        run();
        meta();
        ledger();
        entry();
        broker();
        message();
        heard();
        acked();
        fenced();
        SCRIPT.end();
    }

    private static void run(String name, Run topic, String... lines) {
        SCRIPT.run(name, topic, lines);
    }

    private static void newObject() {
        run("1 at first", Beginnings.small(),
                "meta(0) = 0; meta(1) = -1; meta(2) = 0; meta(3) = 0; meta(4) = 0",
                "broker(0, 0) = 0; broker(1, 0) = 0; broker(2, 0) = 0; acked(-1, 0, 0) = false",
                "power(0, true) ! ISE; run(2, true) ! ISE; heard(0) = 0; ledger(0, 0) = -2");
        run("1 B at least 3", new Run(-5, 3, 2, 2), "sync(2) = 0; sync(3) ! IAE");
        run("1 B at most 6", new Run(Integer.MAX_VALUE, 3, 2, 2), "sync(5) = 0; sync(6) ! IAE");
        run("1 B as it is", new Run(4, 3, 2, 2), "sync(3) = 0; sync(4) ! IAE");
        run("1 N at most 4", new Run(6, 6, 2, 2),
                "own(0) = 2; open(0, 4) = 0; ledger(0, 2) = 4; ledger(0, 3) = 5; ledger(0, 4) = 0; ledger(0, 5) = 1");
        run("1 N at most B", new Run(3, 4, 2, 2), "own(0) = 2; open(0, 0) = 0; ledger(0, 4) = 2; ledger(0, 5) = -1");
        run("1 N at least 1", new Run(3, 0, 2, 2), "own(0) = 2; open(0, 1) = 0; ledger(0, 2) = 1; ledger(0, 3) = -1");
        run("1 W at most N", new Run(4, 3, 9, 1),
                "own(0) = 2; open(0, 0) = 0; publish(0, 0, 1, 1) = 0; add(0, 0) = 1; add(0, 1) = 1; add(0, 2) = 1; add(0, 3) ! IAE");
        run("1 W at least 1", new Run(4, 3, -9, 1),
                "own(0) = 2; open(0, 0) = 0; publish(0, 0, 1, 1) = 0; add(0, 0) = 1; add(0, 1) = 0; add(0, 2) = 0");
        run("1 A at most W", new Run(3, 3, 2, 9),
                "own(0) = 2; open(0, 0) = 0; publish(0, 0, 1, 1) = 0; add(0, 0) = 1; add(0, 1) = 1",
                "sync(0) = 1; broker(0, 2) = 0; sync(1) = 1; broker(0, 2) = 1");
        run("1 A at least 1", new Run(3, 3, 2, 0),
                "own(0) = 2; open(0, 0) = 0; publish(0, 0, 1, 1) = 0; broker(0, 2) = 0",
                "add(0, 0) = 1; broker(0, 2) = 0; sync(0) = 1; broker(0, 2) = 1");
    }

    private static void own() {
        run("2 wrong", Beginnings.small(), "own(-1) ! IAE; own(3) ! IAE; run(1, false); own(1) ! ISE; meta(0) = 0; meta(1) = -1");
        run("2 ready", Beginnings.small(), "own(2) = 2; meta(0) = 1; meta(1) = 2; broker(2, 0) = 2; broker(2, 3) = 1; broker(2, 1) = -1",
                "own(2) = 2; meta(0) = 2; broker(2, 3) = 2; own(1) = 2; meta(1) = 1; broker(2, 0) = 2; broker(2, 3) = 2");
        run("2 recovering", Beginnings.small(), "own(0) = 2; open(0, 0) = 0; ledger(0, 0) = 0; own(1) = 1; ledger(0, 0) = 1",
                "broker(1, 0) = 1; broker(1, 1) = 0; broker(0, 0) = 3; broker(0, 1) = 0; meta(2) = 1");
        run("2 all closed", Beginnings.small(), "own(0) = 2; open(0, 0) = 0; close(0) = -1; own(1) = 2; broker(1, 1) = -1; ledger(0, 0) = 2");
        run("2 what it had is gone", Beginnings.small(), "own(0) = 2; open(0, 0) = 0; publish(0, 0, 1, 1) = 0; attach(0, 0, 1); permit(0, 0, 1, 5)",
                "own(0) = 1; broker(0, 1) = 0; permit(0, 0, 1, 1) ! ISE; attach(0, 0, 1); publish(0, 0, 2, 2) ! ISE",
                "fence(0, 0) = 0; fence(0, 1) = 0; broker(0, 2) = 0; own(0) = 1; add(0, 0) ! ISE; fence(0, 0) = 0; add(0, 0) ! ISE");
        run("2 saved is acked", Beginnings.oneConfirmed(), "attach(0, 1, 0); permit(0, 1, 0, 9); send(0, 1) = 0; ack(0, 1, 0, 0, false) = 1",
                "own(1) = 1; acked(1, 1, 0) = false; own(0) = 1; acked(0, 1, 0) = false");
        run("2 saved is acked", Beginnings.oneConfirmed(), "attach(0, 1, 0); permit(0, 1, 0, 9); send(0, 1) = 0; ack(0, 1, 0, 0, false) = 1",
                "save(0) = 1; own(1) = 1; acked(1, 1, 0) = true; acked(1, 0, 0) = false; own(0) = 1; acked(0, 1, 0) = true");
        run("2 the turn begins anew", Beginnings.twoConfirmed(), "attach(0, 1, 0); attach(0, 1, 1); permit(0, 1, 0, 9); permit(0, 1, 1, 9)",
                "send(0, 1) = 0; close(0) = 1; own(0) = 2; attach(0, 1, 0); attach(0, 1, 1); permit(0, 1, 0, 9); permit(0, 1, 1, 9)",
                "send(0, 1) = 0; send(0, 1) = 101");
    }

    private static void fence() {
        run("3 wrong", new Run(4, 3, 2, 2), "fence(0, 0) ! ISE; own(0) = 2; fence(0, 0) ! ISE; fence(3, 0) ! IAE; fence(-1, 0) ! IAE",
                "fence(0, -1) ! IAE; fence(0, 4) ! IAE; open(0, 0) = 0; fence(0, 0) ! ISE; fence(0, 3) ! IAE",
                "own(1) = 1; fence(1, 3) ! IAE; power(3, false); fence(1, 3) ! IAE; power(0, false); fence(1, 0) ! ISE",
                "power(0, true); fence(1, 0) = 0; run(1, false); fence(1, 0) ! ISE; fence(1, 3) ! ISE");
        run("3 syncs, tells and fences", Beginnings.small(), "own(0) = 2; open(0, 0) = 0; publish(0, 2, 5, 1) = 0; publish(0, 2, 6, 1) = 1",
                "add(0, 0) = 1; add(0, 1) = 2; sync(0) = 1; own(1) = 1; fenced(1, 0) = false; entry(1, 1) = 102; fence(1, 1) = 2",
                "fenced(1, 0) = true; fenced(0, 0) = false; entry(1, 0) = 1; entry(1, 1) = 2; broker(0, 2) = 1; heard(2) = 5",
                "add(0, 1) ! UOE");
        run("3 replies anew", Beginnings.small(), "own(0) = 2; open(0, 0) = 0; publish(0, 2, 5, 1) = 0; own(1) = 1",
                "fence(1, 0) = 0; fence(1, 2) = 0; broker(1, 2) = 0; add(0, 1) = 1; fence(1, 1) = 1; broker(1, 2) = 1",
                "power(1, false); wipe(1); broker(1, 2) = 1; power(1, true); fence(1, 1) = 0; broker(1, 2) = 0");
        run("3 outdated, and closed", Beginnings.small(), "own(0) = 2; open(0, 0) = 0; own(1) = 1; own(2) = 1; fence(2, 0) = 0; fence(2, 1) = 0",
                "close(2) = -1; fence(1, 0) = 0; broker(1, 0) = 1; meta(0) = 5");
    }

    private static void enoughReplies() {
        run("3 one of each two", new Run(4, 4, 2, 2), "own(0) = 2; open(0, 0) = 0; own(1) = 1; fence(1, 0) = 0; close(1) ! ISE",
                "fence(1, 1) = 0; close(1) ! ISE; fence(1, 0) = 0; close(1) ! ISE; fence(1, 3) = 0; close(1) = -1");
        run("3 across", new Run(4, 4, 2, 2), "own(0) = 2; open(0, 0) = 0; own(1) = 1; fence(1, 1) = 0; fence(1, 3) = 0; close(1) = -1");
        run("3 two of each three", new Run(4, 4, 3, 2), "own(0) = 2; open(0, 0) = 0; own(1) = 1; fence(1, 0) = 0; fence(1, 2) = 0",
                "close(1) ! ISE; fence(1, 1) = 0; close(1) = -1");
        run("3 all", new Run(3, 3, 2, 1), "own(0) = 2; open(0, 0) = 0; own(1) = 1; fence(1, 0) = 0; fence(1, 2) = 0",
                "close(1) ! ISE; fence(1, 1) = 0; close(1) = -1");
        run("3 one of all", new Run(3, 3, 3, 3), "own(0) = 2; open(0, 0) = 0; own(1) = 1; close(1) ! ISE; fence(1, 2) = 0; close(1) = -1");
        run("3 found ends at a gap", Beginnings.small(), "own(0) = 2; open(0, 0) = 0; publish(0, 0, 1, 1) = 0; publish(0, 0, 2, 1) = 1; publish(0, 0, 3, 1) = 2",
                "publish(0, 0, 4, 1) = 3; add(0, 0) = 3; own(1) = 1; fence(1, 0) = 3; broker(1, 2) = 0; fence(1, 2) = 0; broker(1, 2) = 1",
                "fence(1, 1) = 0; broker(1, 2) = 1; add(0, 2) ! UOE; broker(1, 2) = 1");
    }

    private static void addWriting() {
        run("4 wrong", new Run(4, 3, 2, 2), "add(0, 0) ! ISE; own(0) = 2; add(0, 0) ! ISE; add(0, 3) ! ISE; open(0, 0) = 0; add(3, 0) ! IAE",
                "add(-1, 0) ! IAE; add(0, -1) ! IAE; add(0, 4) ! IAE; add(0, 3) ! IAE; power(3, false); add(0, 3) ! IAE",
                "power(0, false); add(0, 0) ! ISE; power(0, true); add(0, 0) = 0; run(0, false); add(0, 0) ! ISE; add(0, 3) ! ISE");
        run("4 by write set", Beginnings.small(), "own(0) = 2; open(0, 1) = 0",
                "publish(0, 0, 1, 1) = 0; publish(0, 0, 2, 1) = 1; publish(0, 0, 3, 1) = 2; publish(0, 0, 4, 1) = 3",
                "add(0, 1) = 3; entry(1, 0) = 101; entry(1, 1) = 0; entry(1, 2) = 103; entry(1, 3) = 104; add(0, 1) = 0",
                "add(0, 2) = 3; entry(2, 0) = 101; entry(2, 1) = 102; entry(2, 2) = 0; entry(2, 3) = 104",
                "add(0, 0) = 2; entry(0, 0) = 0; entry(0, 1) = 102; entry(0, 2) = 103; entry(0, 3) = 0",
                "publish(0, 0, 5, 1) = 4; add(0, 1) = 0; add(0, 2) = 1; add(0, 0) = 1",
                "power(1, false); power(1, true); add(0, 1) = 3");
        run("4 fenced off", Beginnings.oneConfirmed(), "attach(0, 0, 1); publish(0, 0, 2, 2) = 1; own(1) = 1; fence(1, 1) = 1",
                "add(0, 2) = 1; broker(0, 0) = 3; add(0, 1) ! UOE; broker(0, 0) = 0; broker(0, 1) = -1; broker(0, 3) = 0; broker(0, 2) = 0",
                "add(0, 1) ! ISE; entry(1, 1) = 0; detach(0, 0, 1) ! ISE");
        run("4 a fence is of one ledger", Beginnings.small(), "own(0) = 2; open(0, 0) = 0; own(0) = 1; fence(0, 0) = 0; fence(0, 1) = 0; close(0) = -1",
                "open(0, 0) = 1; publish(0, 0, 1, 1) = 8; add(0, 0) = 1; entry(0, 8) = 101; entry(0, 0) = 0");
        run("4 outdated, but not fenced", Beginnings.oneConfirmed(), "publish(0, 0, 2, 2) = 1; own(1) = 1; add(0, 1) = 1; add(0, 2) = 1; broker(0, 0) = 3");
    }

    private static void addRecovering() {
        run("4 enough first", Beginnings.oneConfirmed(), "publish(0, 0, 2, 2) = 1; own(1) = 1; add(1, 0) ! ISE; fence(1, 0) = 1; add(1, 2) ! ISE; own(2) = 1",
                "add(1, 2) ! ISE; broker(1, 0) = 1; fence(1, 1) = 1; add(1, 2) ! UOE; broker(1, 0) = 0; broker(1, 3) = 0; meta(0) = 4");
        run("4 outdated by a save", Beginnings.oneConfirmed(), "own(1) = 1; save(1) = 0; fence(1, 0) = 1; fence(1, 1) = 1; add(1, 0) = 0; broker(1, 0) = 1");
        run("4 gives what is found, synced", Beginnings.small(), "own(0) = 2; open(0, 0) = 0; publish(0, 0, 1, 1) = 0; publish(0, 0, 2, 1) = 1",
                "publish(0, 0, 3, 1) = 2; publish(0, 0, 4, 1) = 3; add(0, 1) = 3; own(1) = 1; fence(1, 1) = 3; fence(1, 2) = 0",
                "broker(1, 2) = 2; add(1, 0) = 1; entry(0, 0) = 1; entry(0, 2) = 0; entry(0, 3) = 0",
                "add(1, 2) = 1; entry(2, 1) = 2; entry(2, 2) = 0; add(1, 1) = 0; add(1, 2) = 0; broker(0, 2) = 0",
                "power(0, false); entry(0, 0) = 1; wipe(0); power(0, true); add(1, 0) = 1");
        run("4 syncs only what it gives", new Run(3, 1, 1, 1), "own(0) = 2; open(0, 0) = 0; publish(0, 0, 1, 1) = 0; add(0, 0) = 1",
                "own(1) = 1; fence(1, 0) = 1; power(0, false); wipe(0); power(0, true); publish(0, 0, 2, 1) = 1; add(0, 0) = 2",
                "entry(0, 0) = 101; add(1, 0) = 0; entry(0, 0) = 101; sync(0) = 2; broker(0, 2) = 2");
        run("4 given to one that is not asked", new Run(3, 3, 3, 2), "own(0) = 2; open(0, 0) = 0; publish(0, 0, 1, 1) = 0; add(0, 0) = 1",
                "own(1) = 1; fence(1, 0) = 1; fence(1, 1) = 0; add(1, 2) = 1; fenced(2, 0) = false; close(1) = 0");
    }

    private static void sync() {
        run("5 wrong", Beginnings.small(), "sync(-1) ! IAE; sync(3) ! IAE; power(1, false); sync(1) ! ISE; power(1, true); sync(1) = 0");
        run("5 counts and tells", Beginnings.small(), "own(0) = 2; open(0, 0) = 0; publish(0, 3, 7, 1) = 0; publish(0, 3, 8, 1) = 1; publish(0, 2, 9, 1) = 2",
                "add(0, 0) = 2; add(0, 1) = 2; add(0, 2) = 2; sync(1) = 2; entry(1, 0) = 1; entry(1, 1) = 2; sync(1) = 0; broker(0, 2) = 0",
                "sync(2) = 2; broker(0, 2) = 0; heard(3) = 0; heard(2) = 0; sync(0) = 2; broker(0, 2) = 3; heard(3) = 8; heard(2) = 9");
        run("5 told stays told", Beginnings.small(), "own(0) = 2; open(0, 0) = 0; publish(0, 3, 7, 1) = 0; add(0, 0) = 1; sync(0) = 1; power(0, false); wipe(0)",
                "add(0, 1) = 1; sync(1) = 1; broker(0, 2) = 1; power(1, false); wipe(1); power(1, true); sync(1) = 0; broker(0, 2) = 1");
        run("5 told twice by one", Beginnings.small(), "own(0) = 2; open(0, 0) = 0; publish(0, 3, 7, 1) = 0; add(0, 0) = 1; sync(0) = 1; sync(0) = 0; broker(0, 2) = 0",
                "power(0, false); wipe(0); power(0, true); add(0, 0) = 1; sync(0) = 1; broker(0, 2) = 0");
        run("5 all ledgers, each writer of its own", new Run(3, 1, 1, 1), "own(0) = 2; open(0, 0) = 0; publish(0, 0, 1, 1) = 0; publish(0, 0, 2, 1) = 1; own(1) = 1",
                "fence(1, 0) = 0; close(1) = -1; power(0, false); wipe(0); power(0, true); open(1, 0) = 1; publish(1, 1, 5, 1) = 8",
                "add(0, 0) = 2; add(1, 0) = 1; sync(0) = 3; broker(0, 2) = 2; broker(1, 2) = 1; heard(0) = 2; heard(1) = 5");
    }

    private static void closeWriting() {
        run("6 wrong", Beginnings.small(), "close(-1) ! IAE; close(3) ! IAE; close(0) ! ISE; own(0) = 2; close(0) ! ISE; open(0, 0) = 0; run(0, false); close(0) ! ISE");
        run("6 writing", Beginnings.twoConfirmed(), "close(0) = 1; meta(0) = 3; broker(0, 0) = 2; broker(0, 1) = -1; broker(0, 2) = 0; broker(0, 3) = 3",
                "ledger(0, 0) = 2; ledger(0, 1) = 1; ledger(0, 6) = 1; ledger(0, 7) = 1; ledger(0, 8) = 0; close(0) ! ISE");
        run("6 all confirmed", Beginnings.oneConfirmed(), "publish(0, 0, 2, 2) = 1; close(0) ! ISE; meta(0) = 2; broker(0, 0) = 3; add(0, 1) = 1; add(0, 2) = 1; sync(1) = 1",
                "close(0) ! ISE; sync(2) = 1; close(0) = 1");
        run("6 no entries", Beginnings.small(), "own(0) = 2; open(0, 0) = 0; close(0) = -1; ledger(0, 0) = 2; ledger(0, 1) = -1; ledger(0, 6) = 0");
        run("6 outdated", Beginnings.oneConfirmed(), "own(1) = 1; close(0) ! UOE; broker(0, 0) = 0; broker(0, 3) = 0; ledger(0, 0) = 1; ledger(0, 1) = -1; meta(0) = 3");
        run("6 unconfirmed, then outdated", Beginnings.oneConfirmed(), "publish(0, 0, 2, 2) = 1; own(1) = 1; close(0) ! ISE; broker(0, 0) = 3");
        run("6 latest goes on", Beginnings.twoConfirmed(), "publish(0, 0, 7, 2) = 2; add(0, 0) = 1; add(0, 2) = 1; sync(0) = 1; sync(2) = 1; close(0) = 2",
                "open(0, 0) = 1; publish(0, 3, 4, 2) = 8; add(0, 0) = 1; add(0, 1) = 1; sync(0) = 1; sync(1) = 1; ledger(1, 6) = 0; close(0) = 0",
                "ledger(0, 6) = 7; ledger(0, 7) = 1; ledger(0, 9) = 0; ledger(1, 6) = 7; ledger(1, 7) = 1; ledger(1, 8) = 0; ledger(1, 9) = 4",
                "open(0, 0) = 2; close(0) = -1; ledger(2, 6) = 7; ledger(2, 9) = 4");
        run("6 it keeps its consumers", Beginnings.twoConfirmed(), "attach(0, 0, 1); permit(0, 0, 1, 3); send(0, 0) = 100; close(0) = 1; send(0, 0) = 101; ack(0, 0, 1, 0, false) = 1");
    }

    private static void closeRecovering() {
        run("6 recovering", Beginnings.twoConfirmed(), "own(1) = 1; close(1) ! ISE; fence(1, 0) = 1; close(1) ! ISE; fence(1, 1) = 2; broker(1, 2) = 2; close(1) ! ISE",
                "fence(1, 2) = 1; close(1) = 1; ledger(0, 0) = 2; ledger(0, 1) = 1; ledger(0, 6) = 1; ledger(0, 7) = 1; broker(1, 0) = 2; broker(1, 1) = -1",
                "meta(0) = 4; broker(1, 3) = 4");
        run("6 what was not found is not latest", Beginnings.twoConfirmed(), "publish(0, 0, 9, 2) = 2; own(1) = 1; fence(1, 0) = 1; fence(1, 1) = 2; fence(1, 2) = 1; close(1) = 1",
                "ledger(0, 6) = 1; open(1, 0) = 1; publish(1, 0, 8, 8) = 8");
        run("6 outdated", Beginnings.twoConfirmed(), "own(1) = 1; fence(1, 0) = 1; fence(1, 1) = 2; own(2) = 1; close(1) ! ISE; broker(1, 0) = 1; fence(1, 2) = 1",
                "close(1) ! UOE; broker(1, 0) = 0; ledger(0, 0) = 1; meta(0) = 4");
        run("6 what is unconfirmed may be found", Beginnings.small(), "own(0) = 2; open(0, 0) = 0; publish(0, 2, 4, 1) = 0; add(0, 0) = 1; own(1) = 1; fence(1, 0) = 1",
                "fence(1, 1) = 0; broker(1, 2) = 1; close(1) ! ISE; add(1, 1) = 1; close(1) = 0; ledger(0, 8) = 4; heard(2) = 0",
                "open(1, 0) = 1; publish(1, 2, 3, 1) = -2; heard(2) = 3; publish(1, 2, 4, 1) = -2; heard(2) = 4");
    }

    private static void safeEntries() {
        run("6 had, but not asked nor given", Beginnings.oneConfirmed(), "own(1) = 1; fence(1, 0) = 1; fence(1, 2) = 0; broker(1, 2) = 1; add(1, 1) = 0; close(1) ! ISE",
                "fence(1, 1) = 1; close(1) = 0");
        run("6 by what was said", Beginnings.oneConfirmed(), "own(1) = 1; fence(1, 0) = 1; fence(1, 1) = 1; power(0, false); wipe(0); power(1, false); wipe(1); close(1) = 0");
        run("6 by what was given", Beginnings.oneConfirmed(), "power(0, false); wipe(0); power(0, true); own(1) = 1; fence(1, 0) = 0; fence(1, 1) = 1; close(1) ! ISE",
                "add(1, 0) = 1; power(0, false); wipe(0); close(1) = 0");
        run("6 a reply since it was given", Beginnings.oneConfirmed(), "power(0, false); wipe(0); power(0, true); own(1) = 1; fence(1, 0) = 0; fence(1, 1) = 1; add(1, 0) = 1",
                "power(0, false); wipe(0); power(0, true); fence(1, 0) = 0; close(1) ! ISE; add(1, 0) = 1; close(1) = 0");
        run("6 what is given is in no reply", Beginnings.oneConfirmed(), "power(0, false); wipe(0); power(0, true); own(1) = 1; fence(1, 0) = 0; fence(1, 1) = 1; add(1, 0) = 1",
                "power(1, false); wipe(1); power(1, true); fence(1, 1) = 0; broker(1, 2) = 0; fence(1, 0) = 1; broker(1, 2) = 1; close(1) ! ISE",
                "add(1, 1) = 1; close(1) = 0");
        run("6 a new recovery", Beginnings.oneConfirmed(), "own(1) = 1; fence(1, 0) = 1; fence(1, 1) = 1; own(1) = 1; close(1) ! ISE; fence(1, 0) = 1; close(1) ! ISE; fence(1, 1) = 1; close(1) = 0");
    }

    private static void nothingIsLeft() {
        run("6 replied and given", Beginnings.small(), "own(0) = 2; open(0, 0) = 0; publish(0, 0, 1, 1) = 0; add(0, 0) = 1; publish(0, 0, 2, 1) = 1; publish(0, 0, 3, 1) = 2; add(0, 1) = 2; add(0, 2) = 2",
                "own(1) = 1; fence(1, 0) = 1; fence(1, 1) = 2; fence(1, 2) = 2; close(1) ! ISE; add(1, 0) = 1; entry(0, 0) = 1; entry(0, 2) = 3; close(1) = 2");
        run("2 no told of before", Beginnings.small(), "own(0) = 2; open(0, 0) = 0; publish(0, 0, 1, 1) = 0; add(0, 0) = 1; sync(0) = 1; own(0) = 1; fence(0, 0) = 1; fence(0, 1) = 0; add(0, 1) = 1; close(0) = 0",
                "open(0, 0) = 1; publish(0, 0, 2, 2) = 8; add(0, 1) = 1; sync(1) = 1; broker(0, 2) = 0");
        run("2 no replies of before", Beginnings.small(), "own(0) = 2; open(0, 0) = 0; publish(0, 0, 1, 1) = 0; add(0, 0) = 1; own(1) = 1; fence(1, 0) = 1; power(0, false); wipe(0); own(1) = 1",
                "fence(1, 1) = 0; fence(1, 2) = 0; broker(1, 2) = 0; close(1) = -1");
        run("2 no synced of before", Beginnings.oneConfirmed(), "own(1) = 1; fence(1, 0) = 1; fence(1, 1) = 1; own(1) = 1; fence(1, 1) = 1; fence(1, 2) = 0; broker(1, 2) = 1; close(1) ! ISE");
        run("3 fences of two ledgers", Beginnings.small(), "own(0) = 2; open(0, 0) = 0; own(0) = 1; fence(0, 0) = 0; fence(0, 1) = 0; close(0) = -1; open(0, 0) = 1; own(0) = 1; fence(0, 0) = 0",
                "fenced(0, 0) = true; fenced(0, 1) = true; fenced(1, 1) = false");
        run("15 given again after the trim", new Run(3, 3, 3, 2), "own(0) = 2; open(0, 0) = 0; publish(0, 0, 1, 1) = 0; add(0, 0) = 1; add(0, 1) = 1; add(0, 2) = 1; sync(0) = 1; sync(1) = 1; sync(2) = 1",
                "own(1) = 1; fence(1, 0) = 1; fence(1, 1) = 1; close(1) = 0; attach(1, 0, 0); attach(1, 1, 0); permit(1, 0, 0, 1); permit(1, 1, 0, 1); send(1, 0) = 0; send(1, 1) = 0",
                "ack(1, 0, 0, 0, false) = 1; ack(1, 1, 0, 0, false) = 1; save(1) = 2; trim(1) = 1; entry(2, 0) = 0; add(0, 2) = 1; entry(2, 0) = 101; sync(2) = 1");
    }

    private static void open() {
        run("7 wrong", Beginnings.small(), "open(0, 0) ! ISE; open(-1, 0) ! IAE; open(3, 0) ! IAE; open(0, -1) ! IAE; open(0, 3) ! IAE; own(0) = 2; open(0, 3) ! IAE",
                "run(0, false); open(0, 0) ! ISE; run(0, true); open(0, 0) ! ISE; own(0) = 2; open(0, 0) = 0; open(0, 0) ! ISE; own(1) = 1; open(1, 0) ! ISE");
        run("7 the ensemble", new Run(6, 3, 2, 2), "own(0) = 2; power(4, false); power(0, false); open(0, 4) = 0; ledger(0, 0) = 0; ledger(0, 1) = -1",
                "ledger(0, 2) = 5; ledger(0, 3) = 1; ledger(0, 4) = 2; ledger(0, 5) = -1; meta(0) = 2; meta(2) = 1; broker(0, 0) = 3; broker(0, 1) = 0; broker(0, 3) = 2");
        run("7 not in the old ensemble", new Run(6, 3, 2, 2), "own(0) = 2; open(0, 0) = 0; open(0, 5) ! ISE");
        run("7 too few up", Beginnings.small(), "own(0) = 2; power(2, false); open(0, 0) ! IOOBE; meta(0) = 1; meta(2) = 0; broker(0, 0) = 2; power(2, true); open(0, 0) = 0");
        run("7 the version first", Beginnings.small(), "own(0) = 2; own(1) = 2; power(2, false); open(0, 0) ! UOE; broker(0, 0) = 0; open(0, 0) ! ISE; meta(0) = 2");
        run("7 ten ledgers", Beginnings.small(), "own(0) = 2",
                "open(0, 0) = 0; close(0) = -1; open(0, 0) = 1; close(0) = -1; open(0, 0) = 2; close(0) = -1; open(0, 0) = 3; close(0) = -1",
                "open(0, 0) = 4; close(0) = -1; open(0, 0) = 5; close(0) = -1; open(0, 0) = 6; close(0) = -1; open(0, 0) = 7; close(0) = -1",
                "open(0, 0) = 8; close(0) = -1; open(0, 2) = 9; publish(0, 0, 1, 1) = 72; add(0, 2) = 1; add(0, 0) = 1; sync(0) = 1; sync(2) = 1",
                "close(0) = 0; open(0, 0) ! IOOBE; broker(0, 0) = 2; meta(2) = 10; meta(0) = 21; ledger(9, 6) = 1; ledger(10, 0) = -2",
                "attach(0, 0, 3); permit(0, 0, 3, 9); send(0, 0) = 372; send(0, 0) ! NSEE; ack(0, 0, 3, 72, true) = 1; attach(0, 1, 3); permit(0, 1, 3, 9); send(0, 1) = 372",
                "ack(0, 1, 3, 72, true) = 1; trim(0) = 9; meta(3) = 9; save(0) = 2; trim(0) = 1; meta(3) = 10; trim(0) = 0; send(0, 0) ! NSEE; own(1) = 2; open(0, 0) ! UOE");
    }

    private static void publish() {
        run("8 wrong", Beginnings.small(), "publish(0, 0, 1, 1) ! ISE; publish(-1, 0, 1, 1) ! IAE; publish(3, 0, 1, 1) ! IAE; publish(0, -1, 1, 1) ! IAE",
                "publish(0, 4, 1, 1) ! IAE; publish(0, 0, 0, 1) ! IAE; publish(0, 0, 1001, 1) ! IAE; own(0) = 2; publish(0, 0, 1, 1) ! ISE",
                "open(0, 0) = 0; publish(0, 0, 1001, 1) ! IAE; publish(0, 3, 1000, -7) = 0; message(1, 2) = -7; meta(4) = 1; run(0, false); publish(0, 0, 1, 1) ! ISE");
        run("8 repeated", Beginnings.small(), "own(0) = 2; open(0, 0) = 0; publish(0, 1, 5, 1) = 0; publish(0, 1, 5, 2) = -1; publish(0, 1, 1, 2) = -1; heard(1) = 0",
                "publish(0, 2, 5, 1) = 1; publish(0, 1, 6, 1) = 2; add(0, 0) = 2; add(0, 1) = 2; sync(0) = 2; sync(1) = 2; broker(0, 2) = 1",
                "heard(1) = 5; publish(0, 1, 5, 1) = -2; publish(0, 1, 6, 1) = -1; publish(0, 1, 4, 1) = -2; heard(1) = 5; publish(0, 2, 5, 1) = -1; meta(4) = 3");
        run("8 repeated by latest", Beginnings.oneConfirmed(), "close(0) = 0; open(0, 0) = 1; publish(0, 0, 1, 1) = -2; publish(0, 0, 2, 1) = 8; publish(0, 0, 2, 1) = -1",
                "publish(0, 0, 1, 1) = -2");
        run("8 heard by repeating alone", Beginnings.small(), "own(0) = 2; open(0, 0) = 0; publish(0, 1, 5, 1) = 0; add(0, 0) = 1; own(1) = 1; fence(1, 0) = 1; fence(1, 1) = 0",
                "add(1, 1) = 1; close(1) = 0; heard(1) = 0; open(1, 0) = 1; publish(1, 1, 3, 1) = -2; heard(1) = 3; publish(1, 1, 5, 1) = -2; heard(1) = 5");
        run("8 no room", Beginnings.small(), "own(0) = 2; open(0, 0) = 0; publish(0, 0, 1, 1) = 0; publish(0, 0, 2, 1) = 1; publish(0, 0, 3, 1) = 2",
                "publish(0, 0, 4, 1) = 3; publish(0, 0, 5, 1) = 4; publish(0, 0, 6, 1) = 5; publish(0, 0, 7, 1) ! IOOBE; publish(0, 1, 1, 1) ! IOOBE",
                "publish(0, 0, 6, 1) = -1; meta(4) = 6; broker(0, 0) = 3");
        run("8 an owner who was replaced", Beginnings.oneConfirmed(), "own(1) = 1; publish(0, 0, 2, 1) = 1; meta(4) = 2; entry(0, 1) = 0");
        Run full = new Run(3, 1, 1, 1);
        run("8 sixty messages", full, "own(0) = 2");
        for (int l = 0; l < 10; l++) {
            run("8 sixty messages", full, "open(0, 0) = " + l);
            for (int e = 0; e < 6; e++) {
                run("8 sixty messages", full, "publish(0, 1, " + (10 * l + e + 1) + ", 5) = " + (8 * l + e));
            }
            run("8 sixty messages", full, "add(0, 0) = 6; sync(0) = 6; publish(0, 2, 1, 1) ! IOOBE; close(0) = 5");
        }
        run("8 sixty messages", full, "meta(4) = 60; message(60, 1) = 96; message(61, 1) = 0; entry(0, 77) = 60; heard(1) = 96; ledger(9, 7) = 96");
    }

    private static void attach() {
        run("9 wrong", Beginnings.small(), "attach(0, 0, 0) ! ISE; attach(3, 0, 0) ! IAE; attach(-1, 0, 0) ! IAE; attach(0, -1, 0) ! IAE; attach(0, 2, 0) ! IAE",
                "attach(0, 0, -1) ! IAE; attach(0, 0, 4) ! IAE; own(0) = 2; attach(0, 0, 0); attach(0, 0, 0) ! ISE; attach(0, 1, 0); attach(0, 0, 3)",
                "attach(1, 0, 0) ! ISE; run(0, false); attach(0, 0, 1) ! ISE; run(0, true); attach(0, 0, 1) ! ISE");
        run("9 no permits", Beginnings.twoConfirmed(), "attach(0, 0, 1); send(0, 0) ! NSEE; permit(0, 0, 1, 9); send(0, 0) = 100; detach(0, 0, 1); attach(0, 0, 1); send(0, 0) ! NSEE",
                "permit(0, 0, 1, 1); send(0, 0) = 100; send(0, 0) ! NSEE");
        run("9 in each phase", Beginnings.oneConfirmed(), "attach(0, 0, 1); own(1) = 1; attach(1, 0, 1); own(2) = 1; attach(2, 1, 1)");
    }

    private static void detach() {
        run("10 wrong", Beginnings.small(), "detach(0, 0, 0) ! ISE; detach(3, 0, 0) ! IAE; detach(0, -1, 0) ! IAE; detach(0, 2, 0) ! IAE; detach(0, 0, 4) ! IAE; detach(0, 0, -1) ! IAE",
                "own(0) = 2; detach(0, 0, 0) ! ISE; attach(0, 0, 0); detach(0, 1, 0) ! ISE; detach(0, 0, 1) ! ISE; detach(0, 0, 0); detach(0, 0, 0) ! ISE");
        run("10 sent is not sent", Beginnings.twoConfirmed(), "attach(0, 1, 1); attach(0, 1, 2); attach(0, 0, 1); permit(0, 1, 1, 5); permit(0, 1, 2, 5); permit(0, 0, 1, 5)",
                "send(0, 1) = 100; send(0, 1) = 201; send(0, 0) = 100; detach(0, 1, 1); ack(0, 1, 1, 0, false) ! NSEE; send(0, 1) = 200; send(0, 1) ! NSEE",
                "ack(0, 0, 1, 0, false) = 1; ack(0, 1, 2, 1, false) = 1");
        run("10 acked stays acked", Beginnings.twoConfirmed(), "attach(0, 1, 1); permit(0, 1, 1, 5); send(0, 1) = 100; send(0, 1) = 101; ack(0, 1, 1, 0, false) = 1; detach(0, 1, 1)",
                "acked(0, 1, 0) = true; attach(0, 1, 1); permit(0, 1, 1, 5); send(0, 1) = 101; send(0, 1) ! NSEE");
    }

    private static void permit() {
        run("11 wrong", Beginnings.small(), "permit(0, 0, 0, 1) ! ISE; permit(3, 0, 0, 1) ! IAE; permit(0, 2, 0, 1) ! IAE; permit(0, 0, 4, 1) ! IAE; permit(0, 0, 0, 0) ! IAE",
                "permit(0, 0, 0, 101) ! IAE; permit(0, 0, 0, -1) ! IAE; own(0) = 2; permit(0, 0, 0, 1) ! ISE; attach(0, 0, 0); permit(0, 0, 0, 1); permit(0, 1, 0, 1) ! ISE",
                "permit(0, 0, 0, 100); permit(0, 0, 0, 101) ! IAE");
        run("11 one each", Beginnings.twoConfirmed(), "attach(0, 0, 1); permit(0, 0, 1, 1); send(0, 0) = 100; send(0, 0) ! NSEE; permit(0, 0, 1, 1); send(0, 0) = 101");
    }

    private static void send() {
        run("12 wrong", Beginnings.small(), "send(0, 0) ! ISE; send(3, 0) ! IAE; send(-1, 0) ! IAE; send(0, 2) ! IAE; send(0, -1) ! IAE; own(0) = 2; send(0, 0) ! NSEE; run(0, false); send(0, 0) ! ISE");
        run("12 the lowest attached", Beginnings.twoConfirmed(), "attach(0, 0, 3); send(0, 0) ! NSEE; permit(0, 0, 3, 9); attach(0, 0, 2); send(0, 0) ! NSEE; permit(0, 0, 2, 1)",
                "send(0, 0) = 200; send(0, 0) ! NSEE; detach(0, 0, 2); send(0, 0) = 300; send(0, 0) = 301; send(0, 0) ! NSEE");
        run("12 in turn", Beginnings.sixConfirmed(), "attach(0, 1, 0); attach(0, 1, 1); attach(0, 1, 3); permit(0, 1, 3, 3); send(0, 1) = 300; permit(0, 1, 1, 2)",
                "permit(0, 1, 0, 1); send(0, 1) = 1; send(0, 1) = 102; send(0, 1) = 303; send(0, 1) = 104; send(0, 1) = 305; send(0, 1) ! NSEE");
        run("12 the same one again", Beginnings.sixConfirmed(), "attach(0, 1, 2); permit(0, 1, 2, 2); send(0, 1) = 200; send(0, 1) = 201; send(0, 1) ! NSEE");
        run("12 behind one that is gone", Beginnings.sixConfirmed(), "attach(0, 1, 0); attach(0, 1, 1); attach(0, 1, 2); permit(0, 1, 0, 9); permit(0, 1, 1, 9); permit(0, 1, 2, 9)",
                "send(0, 1) = 0; send(0, 1) = 101; detach(0, 1, 1); send(0, 1) = 201; send(0, 1) = 2");
        run("12 the turn of one subscription", Beginnings.sixConfirmed(), "attach(0, 1, 0); attach(0, 1, 1); attach(0, 0, 0); permit(0, 1, 0, 9); permit(0, 1, 1, 9); permit(0, 0, 0, 9)",
                "send(0, 1) = 0; send(0, 0) = 0; send(0, 1) = 101; send(0, 0) = 1; send(0, 1) = 2");
        run("12 no bookie has it", Beginnings.oneConfirmed(), "attach(0, 0, 0); permit(0, 0, 0, 1); power(0, false); send(0, 0) = 0");
        run("12 no bookie has it", Beginnings.oneConfirmed(), "attach(0, 0, 0); permit(0, 0, 0, 1); power(0, false); power(1, false); send(0, 0) ! NSEE; wipe(1); power(1, true)",
                "send(0, 0) ! NSEE; power(0, true); send(0, 0) = 0; send(0, 0) ! NSEE");
        run("12 unsynced will do", Beginnings.oneConfirmed(), "attach(0, 0, 0); permit(0, 0, 0, 1); power(0, false); power(1, false); wipe(1); power(1, true); add(0, 1) = 1; send(0, 0) = 0");
    }

    private static void sendChain() {
        run("12 only what is confirmed", Beginnings.oneConfirmed(), "publish(0, 0, 2, 2) = 1; add(0, 1) = 1; add(0, 2) = 1; sync(1) = 1; attach(0, 0, 1); permit(0, 0, 1, 9)",
                "send(0, 0) = 100; send(0, 0) ! NSEE; sync(2) = 1; send(0, 0) = 101");
        run("12 one ledger after the other", Beginnings.twoConfirmed(), "close(0) = 1; open(0, 1) = 1; publish(0, 0, 2, 2) = 8; add(0, 1) = 1; add(0, 2) = 1; sync(1) = 1; sync(2) = 1",
                "attach(0, 0, 0); permit(0, 0, 0, 9); send(0, 0) = 0; send(0, 0) = 1; send(0, 0) = 8; send(0, 0) ! NSEE",
                "own(1) = 1; attach(1, 0, 0); permit(1, 0, 0, 9); send(1, 0) = 0; send(1, 0) = 1; send(1, 0) ! NSEE",
                "fence(1, 1) = 1; fence(1, 2) = 1; close(1) = 0; send(1, 0) = 8; send(1, 0) ! NSEE");
        run("12 the chain of one who was replaced", Beginnings.twoConfirmed(), "attach(0, 0, 0); permit(0, 0, 0, 9); own(1) = 1; send(0, 0) = 0; fence(1, 0) = 1; fence(1, 1) = 2; fence(1, 2) = 1",
                "close(1) = 1; open(1, 0) = 1; publish(1, 0, 2, 2) = 8; add(1, 0) = 1; add(1, 1) = 1; sync(0) = 1; sync(1) = 1; send(0, 0) = 1; send(0, 0) ! NSEE",
                "close(1) = 0; send(0, 0) = 8");
        run("12 an end below what was confirmed", Beginnings.twoConfirmed(), "power(1, false); wipe(1); power(1, true); power(2, false); wipe(2); power(2, true); attach(0, 0, 0); permit(0, 0, 0, 9)",
                "own(1) = 1; fence(1, 0) = 1; fence(1, 1) = 0; fence(1, 2) = 0; broker(1, 2) = 1; add(1, 1) = 1; close(1) = 0; send(0, 0) = 0; send(0, 0) ! NSEE; broker(0, 2) = 2");
    }

    private static void ack() {
        run("13 wrong", Beginnings.oneConfirmed(), "ack(1, 0, 0, 0, true) ! ISE; ack(3, 0, 0, 0, true) ! IAE; ack(0, 2, 0, 0, true) ! IAE; ack(0, -1, 0, 0, true) ! IAE; ack(0, 0, 4, 0, true) ! IAE",
                "ack(0, 0, -1, 0, true) ! IAE; ack(0, 0, 0, 0, true) ! NSEE; ack(0, 0, 0, -1, true) ! NSEE; ack(0, 0, 0, 80, true) ! NSEE; ack(0, 0, 0, 2147483647, false) ! NSEE",
                "ack(0, 0, 0, -2147483648, false) ! NSEE; run(0, false); ack(0, 0, 0, 0, true) ! ISE");
        run("13 one", Beginnings.twoConfirmed(), "attach(0, 1, 0); attach(0, 1, 1); permit(0, 1, 0, 9); permit(0, 1, 1, 9); send(0, 1) = 0; send(0, 1) = 101",
                "ack(0, 1, 0, 1, false) ! NSEE; ack(0, 0, 1, 1, false) ! NSEE; ack(0, 1, 1, 1, false) = 1; acked(0, 1, 1) = true; acked(0, 1, 0) = false; acked(0, 0, 1) = false",
                "ack(0, 1, 1, 1, false) ! NSEE; ack(0, 1, 1, 1, true) ! NSEE; ack(0, 1, 0, 0, true) = 1; send(0, 1) ! NSEE");
        run("13 all before", Beginnings.sixConfirmed(), "attach(0, 1, 0); attach(0, 1, 1); permit(0, 1, 0, 9); permit(0, 1, 1, 9); send(0, 1) = 0; send(0, 1) = 101; send(0, 1) = 2; send(0, 1) = 103",
                "ack(0, 1, 1, 1, false) = 1; ack(0, 1, 0, 2, true) = 2; acked(0, 1, 0) = true; acked(0, 1, 3) = false; ack(0, 1, 0, 0, false) ! NSEE; acked(0, 0, 0) = false");
        run("13 what came back before it", Beginnings.sixConfirmed(), "attach(0, 1, 0); attach(0, 1, 1); permit(0, 1, 0, 9); permit(0, 1, 1, 9); send(0, 1) = 0; send(0, 1) = 101; detach(0, 1, 0)",
                "ack(0, 1, 1, 1, true) = 2; send(0, 1) = 102");
        run("13 ledgers before", Beginnings.twoConfirmed(), "close(0) = 1; open(0, 0) = 1; publish(0, 0, 2, 2) = 8; publish(0, 0, 3, 2) = 9; add(0, 0) = 1; add(0, 1) = 2; add(0, 2) = 1; sync(0) = 1; sync(1) = 2; sync(2) = 1",
                "attach(0, 0, 0); permit(0, 0, 0, 9); send(0, 0) = 0; send(0, 0) = 1; send(0, 0) = 8; send(0, 0) = 9; ack(0, 0, 0, 8, true) = 3; acked(0, 0, 2) = false; acked(0, 0, 9) = false; ack(0, 0, 0, 9, true) = 1");
        run("13 sent before it was trimmed", Beginnings.twoConfirmed(), "attach(0, 0, 0); permit(0, 0, 0, 9); send(0, 0) = 0; send(0, 0) = 1; close(0) = 1; own(1) = 2; attach(1, 0, 0); permit(1, 0, 0, 9)",
                "attach(1, 1, 0); permit(1, 1, 0, 9); send(1, 0) = 0; send(1, 0) = 1; send(1, 1) = 0; send(1, 1) = 1; ack(1, 0, 0, 1, true) = 2; ack(1, 1, 0, 1, true) = 2; save(1) = 4; trim(1) = 1",
                "ack(0, 0, 0, 1, true) = 1; acked(0, 0, 1) = true; acked(0, 0, 0) = false");
    }

    private static void save() {
        run("14 wrong", Beginnings.small(), "save(-1) ! IAE; save(3) ! IAE; save(0) ! ISE; own(0) = 2; run(0, false); save(0) ! ISE; meta(0) = 1");
        run("14 both subscriptions", Beginnings.twoConfirmed(), "attach(0, 0, 0); attach(0, 1, 0); permit(0, 0, 0, 9); permit(0, 1, 0, 9); send(0, 0) = 0; send(0, 0) = 1; send(0, 1) = 0",
                "ack(0, 0, 0, 1, true) = 2; ack(0, 1, 0, 0, false) = 1; acked(-1, 0, 0) = false; save(0) = 3; meta(0) = 3; broker(0, 3) = 3; acked(-1, 0, 0) = true; acked(-1, 0, 1) = true",
                "acked(-1, 1, 0) = true; acked(-1, 1, 1) = false; save(0) = 0; meta(0) = 4; send(0, 1) = 1; ack(0, 1, 0, 1, true) = 1; save(0) = 1");
        run("14 outdated", Beginnings.twoConfirmed(), "attach(0, 0, 0); permit(0, 0, 0, 9); send(0, 0) = 0; ack(0, 0, 0, 0, false) = 1; own(1) = 1; save(0) ! UOE; broker(0, 0) = 0; acked(-1, 0, 0) = false; acked(0, 0, 0) = false; meta(0) = 3");
        run("14 ready and recovering", Beginnings.oneConfirmed(), "own(1) = 1; save(1) = 0; own(2) = 1; broker(1, 0) = 1; save(1) ! UOE; fence(2, 0) = 1; fence(2, 1) = 1; close(2) = 0; save(2) = 0; meta(0) = 7");
    }

    private static void trim() {
        run("15 wrong", Beginnings.small(), "trim(-1) ! IAE; trim(3) ! IAE; trim(0) ! ISE; own(0) = 2; trim(0) = 0; meta(0) = 2; broker(0, 3) = 2; own(1) = 2; trim(0) ! UOE; broker(0, 0) = 0; meta(0) = 3");
        run("15 saved for both", Beginnings.twoConfirmed(), "attach(0, 0, 0); attach(0, 1, 0); permit(0, 0, 0, 9); permit(0, 1, 0, 9); send(0, 0) = 0; send(0, 0) = 1; send(0, 1) = 0; send(0, 1) = 1",
                "ack(0, 0, 0, 1, true) = 2; ack(0, 1, 0, 0, true) = 1; save(0) = 3; close(0) = 1; trim(0) = 0; meta(3) = 0; ack(0, 1, 0, 1, true) = 1; trim(0) = 0; save(0) = 1",
                "power(1, false); trim(0) = 1; meta(3) = 1; entry(0, 0) = 0; entry(2, 1) = 0; entry(1, 0) = 1; entry(1, 1) = 2; power(1, true); trim(0) = 0; entry(1, 0) = 1",
                "ledger(0, 0) = 2; ledger(0, 1) = 1; ledger(0, 6) = 1; acked(-1, 0, 0) = true; open(0, 0) = 1; publish(0, 0, 1, 1) = -2; publish(0, 0, 2, 1) = 8");
        run("15 only closed ones", Beginnings.oneConfirmed(), "attach(0, 0, 0); attach(0, 1, 0); permit(0, 0, 0, 9); permit(0, 1, 0, 9); send(0, 0) = 0; send(0, 1) = 0; ack(0, 0, 0, 0, true) = 1; ack(0, 1, 0, 0, true) = 1",
                "save(0) = 2; trim(0) = 0; meta(3) = 0; entry(0, 0) = 1; close(0) = 0; trim(0) = 1; meta(3) = 1; trim(0) = 0; sync(0) = 0");
        run("15 empty ones, up to one that is not done", Beginnings.small(), "own(0) = 2; open(0, 0) = 0; close(0) = -1; open(0, 0) = 1; close(0) = -1; open(0, 0) = 2; publish(0, 0, 1, 1) = 16",
                "add(0, 0) = 1; add(0, 1) = 1; sync(0) = 1; sync(1) = 1; close(0) = 0; open(0, 0) = 3; close(0) = -1; trim(0) = 2; meta(3) = 2; entry(0, 16) = 1");
        run("15 what lies behind the end too, fences stay", Beginnings.small(), "own(0) = 2; open(0, 0) = 0; publish(0, 0, 1, 1) = 0; publish(0, 0, 2, 1) = 1; own(1) = 1; fence(1, 0) = 0; fence(1, 1) = 0; add(0, 2) = 1",
                "close(1) = -1; entry(2, 1) = 102; trim(1) = 1; entry(2, 1) = 0; fenced(0, 0) = true; sync(2) = 0; add(0, 2) = 1");
    }

    private static void power() {
        run("16 wrong", Beginnings.small(), "power(-1, false) ! IAE; power(3, true) ! IAE; power(0, true) ! ISE; power(0, false); power(0, false) ! ISE; power(0, true); power(0, true) ! ISE");
        run("16 unsynced is lost", Beginnings.oneConfirmed(), "publish(0, 0, 2, 2) = 1; add(0, 1) = 1; own(1) = 1; fence(1, 0) = 1; entry(1, 1) = 102; power(1, false); entry(1, 1) = 0; entry(1, 0) = 1",
                "power(1, true); entry(1, 0) = 1; sync(1) = 0; power(0, false); power(0, true); fenced(0, 0) = true; entry(0, 0) = 1");
    }

    private static void wipe() {
        run("17 wrong", Beginnings.small(), "wipe(-1) ! IAE; wipe(3) ! IAE; wipe(0) ! ISE; power(0, false); wipe(0); wipe(0); power(0, true); wipe(0) ! ISE");
        run("17 entries and fences", Beginnings.oneConfirmed(), "own(1) = 1; fence(1, 0) = 1; fence(1, 1) = 1; power(0, false); fenced(0, 0) = true; entry(0, 0) = 1; wipe(0); fenced(0, 0) = false; entry(0, 0) = 0",
                "fenced(1, 0) = true; entry(1, 0) = 1; power(0, true); add(0, 0) = 1; broker(0, 0) = 3; entry(0, 0) = 101");
    }

    private static void run() {
        run("18 wrong", Beginnings.small(), "run(-1, true) ! IAE; run(3, false) ! IAE; run(0, true) ! ISE; run(0, false); run(0, false) ! ISE; run(0, true); run(0, true) ! ISE");
        run("18 out", Beginnings.oneConfirmed(), "attach(0, 0, 1); run(0, false); broker(0, 0) = -1; broker(0, 1) = -1; broker(0, 2) = 0; broker(0, 3) = 0; meta(0) = 2; meta(1) = 0; own(0) ! ISE",
                "run(0, true); broker(0, 0) = 0; attach(0, 0, 1) ! ISE; own(0) = 1; attach(0, 0, 1); ledger(0, 0) = 1");
        run("18 not told when down", Beginnings.small(), "own(0) = 2; open(0, 0) = 0; publish(0, 0, 1, 1) = 0; add(0, 0) = 1; add(0, 1) = 1; sync(0) = 1; run(0, false); sync(1) = 1; heard(0) = 0");
    }

    private static void meta() {
        run("19", Beginnings.twoConfirmed(), "meta(0) = 2; meta(1) = 0; meta(2) = 1; meta(3) = 0; meta(4) = 2; meta(5) = -1; meta(-1) = -1; close(0) = 1; open(0, 0) = 1; meta(2) = 2; own(2) = 1; meta(1) = 2; meta(0) = 5");
    }

    private static void ledger() {
        run("20", new Run(4, 2, 2, 1), "ledger(0, 0) = -2; own(0) = 2; open(0, 3) = 0; publish(0, 0, 3, 1) = 0; publish(0, 3, 5, 1) = 1; add(0, 3) = 2; sync(3) = 2",
                "ledger(0, 0) = 0; ledger(0, 1) = -1; ledger(0, 2) = 3; ledger(0, 3) = 0; ledger(0, 4) = -1; ledger(0, 5) = -1; ledger(0, 6) = 0; ledger(0, 9) = 0; ledger(0, 10) = -2; ledger(0, -1) = -2",
                "ledger(-1, 0) = -2; ledger(1, 0) = -2; ledger(10, 0) = -2; close(0) = 1; ledger(0, 0) = 2; ledger(0, 1) = 1; ledger(0, 6) = 3; ledger(0, 7) = 0; ledger(0, 8) = 0; ledger(0, 9) = 5; ledger(1, 6) = -2");
    }

    private static void entry() {
        run("21", Beginnings.oneConfirmed(), "publish(0, 0, 2, 2) = 1; add(0, 1) = 1; entry(1, 0) = 1; entry(1, 1) = 102; entry(1, 2) = 0; entry(1, 6) = 0; entry(1, 7) = 0; entry(1, 8) = 0; entry(2, 0) = 0",
                "entry(-1, 0) = 0; entry(3, 0) = 0; entry(0, -1) = 0; entry(0, 80) = 0; entry(0, 2147483647) = 0; entry(0, -2147483648) = 0; entry(2147483647, 0) = 0; power(0, false); entry(0, 0) = 1");
    }

    private static void broker() {
        run("22", Beginnings.twoConfirmed(), "publish(0, 0, 2, 1) = 2; broker(0, 0) = 3; broker(0, 1) = 0; broker(0, 2) = 2; broker(0, 3) = 2; broker(0, 4) = -2; broker(0, -1) = -2; broker(-1, 0) = -2; broker(3, 0) = -2",
                "broker(1, 0) = 0; broker(1, 1) = -1; broker(1, 2) = 0; broker(1, 3) = 0; own(1) = 1; broker(1, 2) = 0; fence(1, 1) = 2; broker(1, 2) = 0; fence(1, 0) = 1; broker(1, 2) = 2; broker(1, 1) = 0; broker(1, 3) = 3");
    }

    private static void message() {
        run("23", Beginnings.small(), "message(1, 0) = 0; own(0) = 2; open(0, 0) = 0; publish(0, 3, 77, -5) = 0; publish(0, 3, 77, 6) = -1; publish(0, 2, 8, 2147483647) = 1",
                "message(1, 0) = 3; message(1, 1) = 77; message(1, 2) = -5; message(2, 0) = 2; message(2, 1) = 8; message(2, 2) = 2147483647; message(1, 3) = 0; message(1, -1) = 0; message(0, 1) = 0; message(3, 1) = 0; message(-1, 1) = 0; message(61, 1) = 0");
    }

    private static void heard() {
        run("24", Beginnings.small(), "heard(-1) = 0; heard(4) = 0; own(0) = 2; open(0, 0) = 0; publish(0, 3, 9, 1) = 0; heard(3) = 0; publish(0, 3, 9, 1) = -1; heard(3) = 0; add(0, 0) = 1; add(0, 1) = 1; sync(0) = 1; heard(3) = 0; sync(1) = 1; heard(3) = 9",
                "publish(0, 3, 2, 1) = -2; heard(3) = 9; heard(0) = 0; run(0, false); heard(3) = 9");
    }

    private static void acked() {
        run("25", Beginnings.twoConfirmed(), "attach(0, 1, 0); permit(0, 1, 0, 9); send(0, 1) = 0; acked(0, 1, 0) = false; ack(0, 1, 0, 0, false) = 1; acked(0, 1, 0) = true; acked(0, 0, 0) = false; acked(1, 1, 0) = false; acked(-1, 1, 0) = false; save(0) = 1; acked(-1, 1, 0) = true",
                "acked(-2, 1, 0) = false; acked(3, 1, 0) = false; acked(-1, 2, 0) = false; acked(-1, -1, 0) = false; acked(-1, 1, -1) = false; acked(-1, 1, 80) = false; acked(0, 1, 2147483647) = false; acked(0, 1, -2147483648) = false",
                "run(0, false); acked(0, 1, 0) = false; acked(-1, 1, 0) = true; run(0, true); acked(0, 1, 0) = false");
    }

    private static void fenced() {
        run("26", Beginnings.oneConfirmed(), "fenced(0, 0) = false; own(1) = 1; fenced(0, 0) = false; fence(1, 0) = 1; fenced(0, 0) = true; fenced(0, 1) = false; fenced(1, 0) = false; fenced(-1, 0) = false; fenced(3, 0) = false; fenced(0, -1) = false; fenced(0, 10) = false",
                "fenced(0, 32) = false; fenced(0, 64) = false; power(0, false); fenced(0, 0) = true; fence(1, 1) = 1; close(1) = 0; fenced(1, 0) = true");
    }
}
