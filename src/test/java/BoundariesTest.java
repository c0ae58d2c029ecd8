/**
 * For each sentence of the document that names a boundary case a test of its own: what is too small or too large,
 * empty, full, goes round, or is refused. What is there after a refused call is looked at by Script. That arguments are
 * refused is seen in ArgumentsTest, what has to be counted for all sizes in SizesTest.
 */
public final class BoundariesTest {
    private static final Script SCRIPT = new Script();

    public static void main(String[] args) {
        terms();
        whatIsThrownFirst();
        newObject();
        own();
        fence();
        addWriting();
        addRecovering();
        sync();
        closeWriting();
        closeRecovering();
        open();
        publishSequences();
        publishRepeated();
        publishNoRoom();
        attach();
        detach();
        permit();
        sendNothing();
        sendInTurn();
        sendReadable();
        ackRefused();
        ackAll();
        save();
        trim();
        trimUpTo();
        power();
        wipe();
        run();
        meta();
        ledger();
        entry();
        broker();
        message();
        heard();
        acked();
        fenced();
        SCRIPT.end();
    }

    private static void test(String name, Run run, String... lines) {
        SCRIPT.run(name, run, lines);
    }

    /** Broker 1 is RECOVERING ledger 0, entries 0 and 1 of which were confirmed. */
    private static Run recovering() {
        return Beginnings.twoConfirmed().after("own(1)");
    }

    /** Broker 0 is READY, ledger 0 with one entry is closed. */
    private static Run oneClosed() {
        return Beginnings.oneConfirmed().after("close(0)");
    }

    /** Broker 0 is READY and outdated, as 1 is the owner now. */
    private static Run readyOutdated() {
        return Beginnings.small().after("own(0); own(1)");
    }

    private static void terms() {
        test("all are up at first", new Run(6, 3, 2, 2), "power(0, true) ! ISE; power(1, true) ! ISE; power(2, true) ! ISE; power(3, true) ! ISE",
                "power(4, true) ! ISE; power(5, true) ! ISE; run(0, true) ! ISE; run(1, true) ! ISE; run(2, true) ! ISE");
        test("0 OUT (at first)", Beginnings.small(), "broker(0, 0) = 0; broker(1, 0) = 0; broker(2, 0) = 0");
        test("LEDGERS 0 .. 9, ENTRIES 0 .. 5: the greatest position is 77", Beginnings.allFull(), "entry(0, 77) = 60; entry(0, 78) = 0; entry(0, 79) = 0; entry(0, 80) = 0");
        test("META is always there", oneClosed().after("power(0, false); power(1, false); power(2, false); run(0, false); run(1, false); run(2, false)"), "meta(0) = 3; meta(1) = 0; meta(2) = 1; meta(4) = 1; ledger(0, 0) = 2; ledger(0, 1) = 0; ledger(0, 6) = 1");
        test("512 calls", Beginnings.small().after("own(0);".repeat(510)), "own(2) = 2; meta(0) = 511");
        test("the version is the same: not outdated", Beginnings.small(), "own(0) = 2; save(0) = 0; trim(0) = 0; open(0, 0) = 0; save(0) = 0; trim(0) = 0; close(0) = -1; save(0) = 0; meta(0) = 8; broker(0, 3) = 8");
        test("the version is one greater: outdated", readyOutdated(), "broker(0, 3) = 1; meta(0) = 2; save(0) ! UOE; broker(0, 0) = 0; broker(0, 3) = 0; meta(0) = 2");
        test("the owner itself again: not outdated", Beginnings.small(), "own(0) = 2; own(0) = 2; save(0) = 0");
        test("a broker that is OUT has nothing", Beginnings.oneConfirmed().after("attach(0, 1, 0); permit(0, 1, 0, 5); send(0, 1); ack(0, 1, 0, 0, false); own(1)"),
                "trim(0) ! UOE; broker(0, 0) = 0; broker(0, 1) = -1; broker(0, 2) = 0; broker(0, 3) = 0; acked(0, 1, 0) = false; send(0, 1) ! ISE; detach(0, 1, 0) ! ISE; close(0) ! ISE; publish(0, 0, 2, 2) ! ISE");
        test("CONFIRMED as far as each was told: a gap", Beginnings.small(), "own(0) = 2; open(0, 0) = 0; publish(0, 0, 1, 1) = 0; publish(0, 0, 2, 1) = 1; publish(0, 0, 3, 1) = 2; add(0, 1) = 2; add(0, 2) = 2; sync(1) = 2; sync(2) = 2",
                "broker(0, 2) = 0; heard(0) = 0; add(0, 0) = 2; sync(0) = 2; broker(0, 2) = 3; heard(0) = 3");
        test("CONFIRMED whichever have lost it since", Beginnings.oneConfirmed().after("power(0, false); wipe(0); power(1, false); wipe(1)"), "broker(0, 2) = 1; close(0) = 0");
        test("told by one that has lost it since", Beginnings.small(), "own(0) = 2; open(0, 0) = 0; publish(0, 0, 1, 1) = 0; add(0, 0) = 1; sync(0) = 1; power(0, false); wipe(0); add(0, 1) = 1; sync(1) = 1; broker(0, 2) = 1; heard(0) = 1");
        test("the greatest that it heard", Beginnings.small(), "own(0) = 2; open(0, 0) = 0; publish(0, 2, 7, 1) = 0; add(0, 0) = 1; add(0, 1) = 1; sync(0) = 1; sync(1) = 1; heard(2) = 7; publish(0, 2, 1, 1) = -2; heard(2) = 7");
    }

    private static void whatIsThrownFirst() {
        Run four = new Run(4, 3, 2, 2).after("own(0); open(0, 0); publish(0, 0, 1, 1)");
        test("not in the ensemble, and it is down", four.again().after("power(3, false)"), "add(0, 3) ! IAE; fence(0, 3) ! IAE");
        test("not in the ensemble, and the phase is another", four.again(), "fence(0, 3) ! IAE; own(1) = 1; add(1, 3) ! IAE; fence(1, 3) ! IAE");
        test("not in the ensemble, but with open()", four.again(), "open(0, 3) ! ISE; own(1) = 1; open(1, 3) ! ISE");
        test("not in an ensemble of four", new Run(6, 4, 2, 2).after("own(0); open(0, 3)"), "add(0, 1) ! IAE; add(0, 2) ! IAE; add(0, 0) = 0; own(1) = 1; fence(1, 1) ! IAE; fence(1, 2) ! IAE; fence(1, 0) = 0");
        test("no ledger, so no ensemble", new Run(4, 3, 2, 2).after("own(0)"), "fence(0, 3) ! ISE; add(0, 3) ! ISE; fence(1, 3) ! ISE; add(1, 3) ! ISE");
        test("no ledger any more, so no ensemble", four.again().after("run(0, false)"), "fence(0, 3) ! ISE; add(0, 3) ! ISE; run(0, true); add(0, 3) ! ISE");
        test("q is not as said, and there is no room", Beginnings.sixConfirmed(), "publish(0, 0, 0, 1) ! IAE; publish(0, 0, 1001, 1) ! IAE; publish(0, 0, 7, 1) ! IOOBE");
        test("no such bookie, and it is outdated", readyOutdated(), "open(0, 3) ! IAE; broker(0, 0) = 2");
        test("no such bookie, and too few are up", Beginnings.small().after("own(0); power(0, false)"), "open(0, 3) ! IAE; open(0, 0) ! IOOBE");
        test("n is not as said, and it is not attached", Beginnings.small().after("own(0)"), "permit(0, 0, 0, 0) ! IAE; permit(0, 0, 0, 101) ! IAE; permit(0, 0, 0, 1) ! ISE");
        test("no such subscription, and nothing to send", Beginnings.small().after("own(0)"), "send(0, 2) ! IAE; send(0, 1) ! NSEE");
        test("no such consumer, and nothing was sent", Beginnings.small().after("own(0)"), "ack(0, 0, 4, 0, false) ! IAE; ack(0, 0, 3, 0, false) ! NSEE");
        test("the bookie is down, and it has fenced", four.again().after("own(1); fence(1, 0); power(0, false)"), "add(0, 0) ! ISE; broker(0, 0) = 3; power(0, true); add(0, 0) ! UOE");
        test("the replies are not enough, and it is outdated", recovering().after("fence(1, 0); own(2)"), "add(1, 0) ! ISE; close(1) ! ISE; broker(1, 0) = 1");
        test("the bookie is down, and it is outdated", recovering().after("fence(1, 0); fence(1, 1); power(2, false); own(2)"), "add(1, 2) ! ISE; broker(1, 0) = 1; add(1, 0) ! UOE");
        test("not all is confirmed, and it is outdated", Beginnings.twoConfirmed().after("publish(0, 0, 2, 2); own(1)"), "close(0) ! ISE; broker(0, 0) = 3");
        test("what is found is not safe, and it is outdated", recovering().after("fence(1, 0); fence(1, 1); own(2)"), "close(1) ! ISE; broker(1, 0) = 1; fence(1, 2) = 1; close(1) ! UOE");
        test("not READY, and outdated", Beginnings.oneConfirmed().after("own(1)"), "open(0, 0) ! ISE; broker(0, 0) = 3");
        test("not READY, and too few are up", Beginnings.oneConfirmed().after("power(0, false)"), "open(0, 0) ! ISE");
        test("not WRITING, and there are sixty messages", Beginnings.allFull(), "publish(0, 0, 1, 1) ! ISE; publish(1, 0, 1, 1) ! ISE");
        test("outdated, and too few are up", readyOutdated().after("power(2, false)"), "open(0, 0) ! UOE; broker(0, 0) = 0");
        test("outdated, and there are ten ledgers", Beginnings.emptyLedgers(10).after("own(1)"), "open(0, 0) ! UOE; broker(0, 0) = 0");
        test("OUT, and nothing to send", Beginnings.small(), "send(0, 0) ! ISE; ack(0, 0, 0, 0, false) ! ISE");
    }

    private static void newObject() {
        test("1 version 0, no owner, no ledgers, base 0", Beginnings.small(), "meta(0) = 0; meta(1) = -1; meta(2) = 0; meta(3) = 0; meta(4) = 0; ledger(0, 0) = -2");
        test("1 nothing saved", Beginnings.small(), "acked(-1, 0, 0) = false; acked(-1, 1, 0) = false; acked(-1, 0, 77) = false; acked(-1, 1, 77) = false");
        test("1 bookies less than 3", new Run(2, 3, 2, 2), "sync(2) = 0; sync(3) ! IAE");
        test("1 bookies 3", new Run(3, 3, 2, 2), "sync(2) = 0; sync(3) ! IAE");
        test("1 bookies 6", new Run(6, 3, 2, 2), "sync(5) = 0; sync(6) ! IAE");
        test("1 bookies more than 6", new Run(7, 3, 2, 2), "sync(5) = 0; sync(6) ! IAE");
        test("1 ensemble less than 1", new Run(6, 0, 2, 2), "own(0) = 2; open(0, 0) = 0; ledger(0, 2) = 0; ledger(0, 3) = -1");
        test("1 ensemble more than B", new Run(3, 4, 2, 2), "own(0) = 2; open(0, 0) = 0; ledger(0, 4) = 2; ledger(0, 5) = -1");
        test("1 ensemble at most 4", new Run(6, 5, 2, 2), "own(0) = 2; power(0, false); power(1, false); open(0, 0) = 0; ledger(0, 2) = 2; ledger(0, 5) = 5; close(0) = -1; power(2, false); open(0, 0) ! IOOBE");
        test("1 write less than 1", new Run(3, 3, 0, 0), "own(0) = 2; open(0, 0) = 0; publish(0, 0, 1, 1) = 0; add(0, 0) = 1; add(0, 1) = 0; add(0, 2) = 0");
        test("1 write more than N", new Run(4, 3, 4, 1), "own(0) = 2; open(0, 0) = 0; publish(0, 0, 1, 1) = 0; add(0, 0) = 1; add(0, 1) = 1; add(0, 2) = 1; add(0, 3) ! IAE");
        test("1 ack less than 1", new Run(3, 3, 2, 0), "own(0) = 2; open(0, 0) = 0; publish(0, 0, 1, 1) = 0; sync(0) = 0; broker(0, 2) = 0; close(0) ! ISE; add(0, 0) = 1; sync(0) = 1; broker(0, 2) = 1");
        test("1 ack less than 1: replies can be enough", new Run(3, 3, 2, 0).after("own(0); open(0, 0); own(1); fence(1, 0); fence(1, 1); fence(1, 2)"), "close(1) = -1");
        test("1 ack more than W", new Run(3, 3, 2, 3), "own(0) = 2; open(0, 0) = 0; publish(0, 0, 1, 1) = 0; add(0, 0) = 1; add(0, 1) = 1; sync(0) = 1; broker(0, 2) = 0; sync(1) = 1; broker(0, 2) = 1");
    }

    private static void own() {
        test("2 down: refused", Beginnings.oneConfirmed().after("run(1, false)"), "own(1) ! ISE; meta(0) = 2; meta(1) = 0; ledger(0, 0) = 0; broker(1, 0) = -1");
        test("2 no ledgers: READY", Beginnings.small(), "own(0) = 2; broker(0, 1) = -1; meta(0) = 1; broker(0, 3) = 1");
        test("2 the last ledger is closed: READY", oneClosed(), "own(1) = 2; broker(1, 1) = -1; ledger(0, 0) = 2");
        test("2 the last ledger is open, without entries: RECOVERING", Beginnings.small().after("own(0); open(0, 0)"), "own(1) = 1; ledger(0, 0) = 1; broker(1, 1) = 0");
        test("2 the last ledger is FENCING already: RECOVERING", recovering(), "ledger(0, 0) = 1; own(2) = 1; ledger(0, 0) = 1; broker(2, 1) = 0; broker(1, 0) = 1");
        test("2 the greatest number alone", oneClosed().after("open(0, 0)"), "own(1) = 1; ledger(0, 0) = 2; ledger(1, 0) = 1; broker(1, 1) = 1");
        test("2 the tenth", Beginnings.emptyLedgers(9).after("open(0, 0)"), "own(1) = 1; broker(1, 1) = 9; ledger(9, 0) = 1");
        test("2 the same one again: what it had is gone", Beginnings.twoConfirmed().after("attach(0, 1, 1); permit(0, 1, 1, 5); send(0, 1); send(0, 1); ack(0, 1, 1, 0, false); close(0)"),
                "own(0) = 2; broker(0, 3) = 4; acked(0, 1, 0) = false; permit(0, 1, 1, 1) ! ISE; ack(0, 1, 1, 1, false) ! NSEE; attach(0, 1, 1); send(0, 1) ! NSEE; permit(0, 1, 1, 5); send(0, 1) = 100");
        test("2 replies are gone", recovering().after("fence(1, 0); fence(1, 1); fence(1, 2)"), "broker(1, 2) = 2; own(1) = 1; broker(1, 2) = 0; close(1) ! ISE");
        test("2 what was replied is gone", Beginnings.small().after("own(0); open(0, 0); publish(0, 0, 1, 1); add(0, 0); own(1); fence(1, 0); power(0, false); wipe(0)"), "own(1) = 1; fence(1, 1) = 0; fence(1, 2) = 0; broker(1, 2) = 0; close(1) = -1");
        test("2 what was safe is gone", recovering().after("fence(1, 0); fence(1, 1); fence(1, 2)"), "own(1) = 1; fence(1, 1) = 2; fence(1, 2) = 1; broker(1, 2) = 2; close(1) ! ISE; fence(1, 0) = 1; close(1) = 1");
        test("2 nothing is saved", oneClosed(), "own(1) = 2; acked(1, 0, 0) = false; acked(1, 1, 0) = false");
        test("2 what is saved is acked, of each subscription", oneClosed().after("attach(0, 1, 1); permit(0, 1, 1, 5); send(0, 1); ack(0, 1, 1, 0, false); save(0)"), "own(1) = 2; acked(1, 1, 0) = true; acked(1, 0, 0) = false");
    }

    private static void fence() {
        test("3 OUT", Beginnings.oneConfirmed(), "fence(1, 0) ! ISE; fenced(0, 0) = false");
        test("3 READY", oneClosed(), "fence(0, 0) ! ISE; fenced(0, 0) = false");
        test("3 WRITING", Beginnings.oneConfirmed().after("publish(0, 1, 1, 1); add(0, 1)"), "fence(0, 1) ! ISE; fenced(1, 0) = false; entry(1, 1) = 102");
        test("3 the broker is down", recovering().after("run(1, false)"), "fence(1, 0) ! ISE; fenced(0, 0) = false");
        test("3 the bookie is down", recovering().after("power(0, false)"), "fence(1, 0) ! ISE; fenced(0, 0) = false; power(0, true); fence(1, 0) = 1");
        test("3 not in the ensemble", new Run(4, 3, 2, 2).after("own(0); open(0, 2); own(1)"), "fence(1, 1) ! IAE; fenced(1, 0) = false; fence(1, 2) = 0; fence(1, 3) = 0; fence(1, 0) = 0");
        test("3 it has no entries", Beginnings.small().after("own(0); open(0, 0); own(1)"), "fence(1, 0) = 0; fenced(0, 0) = true");
        test("3 it has all six", Beginnings.sixConfirmed().after("own(1)"), "fence(1, 0) = 6; broker(1, 2) = 6");
        test("3 entries of another ledger do not count", oneClosed().after("open(0, 0); own(1)"), "fence(1, 0) = 0; fenced(0, 1) = true; fenced(0, 0) = false");
        test("3 syncs first, all that it has", oneClosed().after("open(0, 0); publish(0, 0, 2, 2); add(0, 0); own(1)"), "entry(0, 8) = 102; fence(1, 0) = 1; entry(0, 8) = 2; power(0, false); entry(0, 8) = 2");
        test("3 as with sync(): it tells the one that is WRITING", Beginnings.small().after("own(0); open(0, 0); publish(0, 0, 5, 1); add(0, 0); add(0, 1); sync(0); own(1)"), "broker(0, 2) = 0; fence(1, 1) = 1; broker(0, 2) = 1; heard(0) = 5");
        test("3 in place of what it replied before: fewer", recovering().after("fence(1, 0); fence(1, 1); power(1, false); wipe(1); power(1, true)"), "broker(1, 2) = 2; fence(1, 1) = 0; broker(1, 2) = 1");
        test("3 in place of what it replied before: more", Beginnings.small().after("own(0); open(0, 0); publish(0, 0, 1, 1); own(1)"),
                "fence(1, 0) = 0; fence(1, 1) = 0; power(0, false); wipe(0); power(0, true); add(0, 0) = 1; broker(1, 2) = 0; fence(1, 0) = 1; broker(1, 2) = 1");
        test("3 the same bookie twice is one reply", Beginnings.small().after("own(0); open(0, 0); own(1)"), "fence(1, 0) = 0; fence(1, 0) = 0; close(1) ! ISE; fence(1, 1) = 0; close(1) = -1");
        test("3 an outdated one may ask", recovering().after("own(2)"), "fence(1, 0) = 1; fenced(0, 0) = true; broker(1, 0) = 1");
    }

    private static void addWriting() {
        test("4 OUT", Beginnings.oneConfirmed().after("publish(0, 1, 1, 1)"), "add(1, 1) ! ISE; entry(1, 1) = 0");
        test("4 READY", oneClosed(), "add(0, 0) ! ISE");
        test("4 the broker is down", Beginnings.oneConfirmed().after("publish(0, 1, 1, 1); run(0, false)"), "add(0, 1) ! ISE; entry(1, 1) = 0");
        test("4 the bookie is down", Beginnings.oneConfirmed().after("publish(0, 1, 1, 1); power(1, false)"), "add(0, 1) ! ISE; entry(1, 1) = 0; power(1, true); add(0, 1) = 1");
        test("4 not in the ensemble", new Run(4, 3, 3, 2).after("own(0); open(0, 2); publish(0, 0, 1, 1)"), "add(0, 1) ! IAE; entry(1, 0) = 0; add(0, 2) = 1; add(0, 3) = 1; add(0, 0) = 1");
        test("4 no entries yet", Beginnings.small().after("own(0); open(0, 0)"), "add(0, 0) = 0");
        test("4 in no write set", Beginnings.small().after("own(0); open(0, 0); publish(0, 0, 1, 1)"), "add(0, 2) = 0; entry(2, 0) = 0");
        test("4 it has all already", Beginnings.oneConfirmed(), "add(0, 0) = 0; entry(0, 0) = 1");
        test("4 it has some", Beginnings.oneConfirmed().after("publish(0, 1, 1, 1)"), "add(0, 1) = 1; entry(1, 0) = 1; entry(1, 1) = 102; add(0, 1) = 0");
        test("4 all six", new Run(3, 3, 3, 1).after("own(0); open(0, 0); publish(0, 0, 1, 1); publish(0, 0, 2, 1); publish(0, 0, 3, 1); publish(0, 0, 4, 1); publish(0, 0, 5, 1); publish(0, 0, 6, 1)"),
                "add(0, 2) = 6; entry(2, 0) = 101; entry(2, 5) = 106");
        test("4 fenced: the broker is OUT", Beginnings.oneConfirmed().after("publish(0, 0, 2, 2); own(1); fence(1, 1)"), "add(0, 1) ! UOE; broker(0, 0) = 0; broker(0, 1) = -1; entry(1, 1) = 0; meta(1) = 1; ledger(0, 0) = 1");
        test("4 fenced, with nothing to give", Beginnings.oneConfirmed().after("own(1); fence(1, 1)"), "add(0, 1) ! UOE; broker(0, 0) = 0");
        test("4 another bookie has fenced", Beginnings.oneConfirmed().after("publish(0, 0, 2, 2); own(1); fence(1, 1)"), "add(0, 2) = 1; broker(0, 0) = 3");
        test("4 another ledger is fenced", recovering().after("fence(1, 0); fence(1, 1); fence(1, 2); close(1); open(1, 0); publish(1, 0, 2, 2)"), "add(1, 0) = 1; entry(0, 8) = 103; broker(1, 0) = 3");
        test("4 a fence that was wiped", Beginnings.oneConfirmed().after("own(1); fence(1, 1); power(1, false); wipe(1); power(1, true)"), "add(0, 1) = 1; broker(0, 0) = 3");
        test("4 a fence that has seen a crash", Beginnings.oneConfirmed().after("own(1); fence(1, 1); power(1, false); power(1, true)"), "add(0, 1) ! UOE");
        test("4 outdated and not fenced", Beginnings.oneConfirmed().after("publish(0, 0, 2, 2); own(1)"), "add(0, 1) = 1; broker(0, 0) = 3; broker(0, 3) = 2");
    }

    private static void addRecovering() {
        test("4 no replies", recovering().after("power(0, false); wipe(0); power(0, true)"), "add(1, 0) ! ISE; entry(0, 0) = 0; broker(1, 0) = 1");
        test("4 one reply less than enough", recovering().after("power(2, false); wipe(2); power(2, true); fence(1, 1)"), "add(1, 2) ! ISE; entry(2, 1) = 0; fence(1, 0) = 1; add(1, 2) = 1; entry(2, 1) = 2");
        test("4 nothing was found", Beginnings.small().after("own(0); open(0, 0); publish(0, 0, 1, 1); own(1); fence(1, 0); fence(1, 1)"), "add(1, 0) = 0; add(1, 2) = 0; entry(0, 0) = 0");
        test("4 only what was found, up to a gap", new Run(3, 3, 2, 2).after("own(0); open(0, 0); publish(0, 0, 1, 1); publish(0, 0, 2, 1); publish(0, 0, 3, 1); add(0, 0); own(1); fence(1, 0); fence(1, 1)"),
                "broker(1, 2) = 1; add(1, 1) = 1; add(1, 2) = 0; entry(1, 0) = 1; entry(1, 1) = 0; entry(2, 2) = 0");
        test("4 synced at once", recovering().after("power(2, false); wipe(2); power(2, true); fence(1, 0); fence(1, 1)"), "add(1, 2) = 1; entry(2, 1) = 2; sync(2) = 0; power(2, false); entry(2, 1) = 2");
        test("4 synced at once, and what was synced stays so", Beginnings.small().after("own(0); open(0, 0); publish(0, 0, 1, 1); add(0, 0); publish(0, 0, 2, 1); publish(0, 0, 3, 1); add(0, 1); add(0, 2); own(1); fence(1, 0); fence(1, 1); fence(1, 2)"),
                "add(1, 0) = 1; entry(0, 0) = 1; entry(0, 2) = 3; sync(0) = 0");
        test("4 the fence is no hindrance", recovering().after("power(2, false); wipe(2); power(2, true); fence(1, 0); fence(1, 1); fence(1, 2)"), "fenced(2, 0) = true; add(1, 2) = 1");
        test("4 to one that has not replied", recovering().after("power(2, false); wipe(2); power(2, true); fence(1, 0); fence(1, 1)"), "fenced(2, 0) = false; add(1, 2) = 1; fenced(2, 0) = false; close(1) = 1");
        test("4 it has all", recovering().after("fence(1, 0); fence(1, 1)"), "add(1, 0) = 0; add(1, 1) = 0; add(1, 2) = 0");
        test("4 the version is the same", recovering().after("save(1); trim(1); fence(1, 0); fence(1, 1)"), "add(1, 0) = 0; broker(1, 0) = 1");
        test("4 META's version is greater", recovering().after("power(2, false); wipe(2); power(2, true); fence(1, 0); fence(1, 1); own(2)"), "add(1, 2) ! UOE; broker(1, 0) = 0; entry(2, 1) = 0; broker(2, 0) = 1");
        test("4 META's version is greater, with nothing to give", recovering().after("fence(1, 0); fence(1, 1); own(0)"), "add(1, 0) ! UOE; broker(1, 0) = 0");
    }

    private static void sync() {
        test("5 down", Beginnings.oneConfirmed().after("power(0, false)"), "sync(0) ! ISE; power(0, true); sync(0) = 0");
        test("5 nothing", Beginnings.small(), "sync(0) = 0; sync(1) = 0; sync(2) = 0");
        test("5 all is synced", Beginnings.oneConfirmed(), "sync(0) = 0; entry(0, 0) = 1");
        test("5 what crashed is not synced", Beginnings.small().after("own(0); open(0, 0); publish(0, 0, 1, 1); add(0, 0); power(0, false); power(0, true)"), "sync(0) = 0; entry(0, 0) = 0; broker(0, 2) = 0");
        test("5 entries of all ledgers", new Run(3, 2, 2, 1).after("own(0); open(0, 0); publish(0, 0, 1, 1); add(0, 0); sync(0); add(0, 1); close(0); open(0, 1); publish(0, 0, 2, 2); add(0, 1)"),
                "entry(1, 0) = 101; entry(1, 8) = 102; sync(1) = 2; entry(1, 0) = 1; entry(1, 8) = 2");
        test("5 all six", Beginnings.small().after("own(0); open(0, 0)"), "publish(0, 0, 1, 1) = 0; publish(0, 0, 2, 1) = 1; publish(0, 0, 3, 1) = 2; publish(0, 0, 4, 1) = 3; publish(0, 0, 5, 1) = 4; publish(0, 0, 6, 1) = 5",
                "add(0, 0) = 4; add(0, 1) = 4; add(0, 2) = 4; sync(0) = 4; sync(1) = 4; broker(0, 2) = 1; sync(2) = 4; broker(0, 2) = 6; heard(0) = 6; close(0) = 5");
        test("5 it tells only those that are WRITING", Beginnings.small().after("own(0); open(0, 0); publish(0, 0, 1, 1); add(0, 0); add(0, 1); own(1); sync(0); run(0, false)"), "sync(1) = 1; heard(0) = 0; broker(1, 2) = 0; close(1) ! ISE");
        test("5 it tells an outdated one that is WRITING", Beginnings.small().after("own(0); open(0, 0); publish(0, 0, 1, 1); add(0, 0); add(0, 1); own(1); sync(0)"), "sync(1) = 1; heard(0) = 1; broker(0, 2) = 1");
        test("5 which entries of that one's ledger", oneClosed().after("open(0, 0); publish(0, 0, 2, 2)"), "sync(0) = 0; sync(1) = 0; broker(0, 2) = 0");
        test("5 told twice by one is told once", Beginnings.small().after("own(0); open(0, 0); publish(0, 0, 1, 1); add(0, 0); add(0, 1)"), "sync(0) = 1; sync(0) = 0; broker(0, 2) = 0; sync(1) = 1; broker(0, 2) = 1");
    }

    private static void closeWriting() {
        test("6 OUT", Beginnings.oneConfirmed(), "close(1) ! ISE; ledger(0, 0) = 0");
        test("6 READY", oneClosed(), "close(0) ! ISE; meta(0) = 3");
        test("6 down", Beginnings.oneConfirmed().after("run(0, false)"), "close(0) ! ISE; ledger(0, 0) = 0");
        test("6 no entries: -1", Beginnings.small().after("own(0); open(0, 0)"), "close(0) = -1; ledger(0, 0) = 2; ledger(0, 1) = -1; broker(0, 0) = 2; broker(0, 1) = -1; ledger(0, 6) = 0; ledger(0, 7) = 0; ledger(0, 8) = 0; ledger(0, 9) = 0");
        test("6 one entry: 0", Beginnings.oneConfirmed(), "close(0) = 0; ledger(0, 1) = 0; ledger(0, 6) = 1; ledger(0, 7) = 0");
        test("6 six entries: 5", Beginnings.sixConfirmed(), "close(0) = 5; ledger(0, 1) = 5; ledger(0, 6) = 6");
        test("6 none is confirmed", Beginnings.small().after("own(0); open(0, 0); publish(0, 0, 1, 1)"), "close(0) ! ISE; ledger(0, 0) = 0; meta(0) = 2; broker(0, 0) = 3; broker(0, 3) = 2");
        test("6 all but one are confirmed", Beginnings.twoConfirmed().after("publish(0, 0, 2, 1)"), "close(0) ! ISE; broker(0, 2) = 2; meta(0) = 2");
        test("6 outdated", Beginnings.oneConfirmed().after("own(1)"), "close(0) ! UOE; ledger(0, 0) = 1; ledger(0, 1) = -1; ledger(0, 6) = 0; broker(0, 0) = 0; broker(1, 0) = 1; meta(0) = 3");
        test("6 outdated, and another has closed it", recovering().after("fence(1, 0); fence(1, 1); fence(1, 2); close(1)"), "close(0) ! UOE; ledger(0, 1) = 1; meta(0) = 4");
        test("6 0: none, and those before", oneClosed().after("open(0, 0)"), "ledger(1, 6) = 0; close(0) = -1; ledger(1, 6) = 1; ledger(1, 7) = 0; open(0, 0) = 2; publish(0, 1, 9, 9) = 16; add(0, 0) = 1; add(0, 1) = 1; sync(0) = 1; sync(1) = 1",
                "close(0) = 0; ledger(2, 6) = 1; ledger(2, 7) = 9; ledger(1, 7) = 0");
    }

    private static void closeRecovering() {
        test("6 no replies", recovering(), "close(1) ! ISE; ledger(0, 0) = 1; meta(0) = 3; broker(1, 0) = 1");
        test("6 one reply less than enough", Beginnings.small().after("own(0); open(0, 0); own(1); fence(1, 0)"), "close(1) ! ISE; fence(1, 2) = 0; close(1) = -1");
        test("6 nothing was found: -1", Beginnings.small().after("own(0); open(0, 0); publish(0, 3, 9, 1); own(1); fence(1, 0); fence(1, 1)"), "close(1) = -1; ledger(0, 0) = 2; ledger(0, 1) = -1; ledger(0, 9) = 0; broker(1, 0) = 2; broker(1, 1) = -1");
        test("6 all six were found: 5", Beginnings.sixConfirmed().after("own(1); fence(1, 0)"), "close(1) = 5; ledger(0, 1) = 5; ledger(0, 6) = 6");
        test("6 one bookie less than safe", recovering().after("fence(1, 0); fence(1, 1)"), "close(1) ! ISE; ledger(0, 0) = 1; meta(0) = 3; fence(1, 2) = 1; close(1) = 1; meta(0) = 4");
        test("6 one bookie less than safe, then it is given", recovering().after("power(2, false); wipe(2); power(2, true); fence(1, 0); fence(1, 1); fence(1, 2)"), "close(1) ! ISE; add(1, 2) = 1; close(1) = 1");
        test("6 the last one found is not safe", Beginnings.twoConfirmed().after("publish(0, 2, 5, 5); add(0, 2); own(1); fence(1, 0); fence(1, 1); fence(1, 2)"), "broker(1, 2) = 3; close(1) ! ISE; add(1, 0) = 1; close(1) = 2; ledger(0, 8) = 5");
        test("6 the first one found is not safe", recovering().after("power(0, false); wipe(0); power(0, true); fence(1, 0); fence(1, 1); fence(1, 2)"), "broker(1, 2) = 2; close(1) ! ISE; add(1, 0) = 1; close(1) = 1");
        test("6 what lies behind a gap need not be safe", Beginnings.small().after("own(0); open(0, 0); publish(0, 0, 1, 1); publish(0, 0, 2, 1); add(0, 2); own(1); fence(1, 0); fence(1, 1); fence(1, 2)"), "entry(2, 1) = 2; broker(1, 2) = 0; close(1) = -1; ledger(0, 6) = 0");
        test("6 by what they said: they are down now", recovering().after("fence(1, 0); fence(1, 1); fence(1, 2); power(0, false); wipe(0); power(1, false); wipe(1); power(2, false); wipe(2)"), "close(1) = 1");
        test("6 by what they said: it has more now", recovering().after("power(2, false); wipe(2); power(2, true); fence(1, 0); fence(1, 1); fence(1, 2); power(2, false); wipe(2); power(2, true); add(0, 2); sync(2)"),
                "entry(2, 1) = 2; add(1, 2) = 0; close(1) ! ISE; fence(1, 2) = 1; close(1) = 1");
        test("6 outdated", recovering().after("fence(1, 0); fence(1, 1); fence(1, 2); own(2)"), "close(1) ! UOE; broker(1, 0) = 0; ledger(0, 0) = 1; ledger(0, 1) = -1; meta(0) = 4");
        test("6 twice", recovering().after("fence(1, 0); fence(1, 1); fence(1, 2); close(1)"), "close(1) ! ISE; meta(0) = 4");
    }

    private static void open() {
        test("7 OUT", Beginnings.small(), "open(0, 0) ! ISE; meta(2) = 0");
        test("7 RECOVERING", recovering(), "open(1, 0) ! ISE; meta(2) = 1");
        test("7 WRITING", Beginnings.oneConfirmed(), "open(0, 0) ! ISE; meta(2) = 1; broker(0, 1) = 0");
        test("7 down", Beginnings.small().after("own(0); run(0, false)"), "open(0, 0) ! ISE; meta(2) = 0");
        test("7 outdated", readyOutdated(), "open(0, 0) ! UOE; meta(2) = 0; broker(0, 0) = 0; meta(0) = 2");
        test("7 from the first bookie", new Run(6, 4, 2, 2).after("own(0)"), "open(0, 0) = 0; ledger(0, 2) = 0; ledger(0, 3) = 1; ledger(0, 4) = 2; ledger(0, 5) = 3");
        test("7 from the last bookie, round", new Run(6, 4, 2, 2).after("own(0)"), "open(0, 5) = 0; ledger(0, 2) = 5; ledger(0, 3) = 0; ledger(0, 4) = 1; ledger(0, 5) = 2");
        test("7 from one that is down", new Run(6, 4, 2, 2).after("own(0); power(5, false)"), "open(0, 5) = 0; ledger(0, 2) = 0; ledger(0, 5) = 3");
        test("7 over one that is down", new Run(6, 4, 2, 2).after("own(0); power(0, false)"), "open(0, 5) = 0; ledger(0, 2) = 5; ledger(0, 3) = 1; ledger(0, 4) = 2; ledger(0, 5) = 3");
        test("7 N bookies are up", new Run(6, 4, 2, 2).after("own(0); power(1, false); power(3, false)"), "open(0, 4) = 0; ledger(0, 2) = 4; ledger(0, 3) = 5; ledger(0, 4) = 0; ledger(0, 5) = 2");
        test("7 fewer than N bookies up", new Run(6, 4, 2, 2).after("own(0); power(1, false); power(3, false); power(5, false)"), "open(0, 4) ! IOOBE; meta(0) = 1; meta(2) = 0; broker(0, 0) = 2; broker(0, 3) = 1; power(1, true); open(0, 4) = 0");
        test("7 no bookie is up", new Run(3, 1, 1, 1).after("own(0); power(0, false); power(1, false); power(2, false)"), "open(0, 0) ! IOOBE; power(1, true); open(0, 0) = 0; ledger(0, 2) = 1");
        test("7 the tenth ledger", Beginnings.emptyLedgers(9), "open(0, 0) = 9; meta(2) = 10; broker(0, 1) = 9");
        test("7 ten ledgers", Beginnings.emptyLedgers(10), "open(0, 0) ! IOOBE; meta(2) = 10; meta(0) = 21; broker(0, 0) = 2; broker(0, 3) = 21");
        test("7 ten ledgers, though they are trimmed", Beginnings.emptyLedgers(10).after("trim(0)"), "meta(3) = 10; open(0, 0) ! IOOBE; broker(0, 0) = 2");
    }

    private static void publishSequences() {
        Run writing = Beginnings.small().after("own(0); open(0, 0)");
        test("8 OUT", Beginnings.oneConfirmed(), "publish(1, 0, 2, 2) ! ISE; meta(4) = 1");
        test("8 READY", oneClosed(), "publish(0, 0, 2, 2) ! ISE; meta(4) = 1");
        test("8 RECOVERING", recovering(), "publish(1, 0, 2, 2) ! ISE; meta(4) = 2");
        test("8 down", Beginnings.oneConfirmed().after("run(0, false)"), "publish(0, 0, 2, 2) ! ISE; meta(4) = 1");
        test("8 outdated, and the ledger is closed", recovering().after("fence(1, 0); fence(1, 1); fence(1, 2); close(1)"), "publish(0, 0, 2, 2) = 2; meta(4) = 3; ledger(0, 1) = 1");
        test("8 q less than 1", writing.again(), "publish(0, 0, 0, 1) ! IAE; publish(0, 0, -1, 1) ! IAE; meta(4) = 0");
        test("8 q is 1", writing.again(), "publish(0, 0, 1, 1) = 0; message(1, 1) = 1");
        test("8 q is 1000", writing.again(), "publish(0, 0, 1000, 1) = 0; message(1, 1) = 1000; publish(0, 0, 1000, 1) = -1");
        test("8 q more than 1000", writing.again(), "publish(0, 0, 1001, 1) ! IAE; meta(4) = 0; publish(0, 0, 1000, 1) = 0; publish(0, 0, 1001, 1) ! IAE");
        test("8 any value", writing.again(), "publish(0, 0, 1, 2147483647) = 0; publish(0, 0, 2, -2147483648) = 1; publish(0, 0, 3, 0) = 2; message(1, 2) = 2147483647; message(2, 2) = -2147483648; message(3, 2) = 0");
        test("8 not above the greatest: the same", writing.again().after("publish(0, 0, 5, 1)"), "publish(0, 0, 5, 2) = -1; meta(4) = 1; message(1, 2) = 1");
        test("8 not above the greatest: less", writing.again().after("publish(0, 0, 5, 1)"), "publish(0, 0, 4, 2) = -1; publish(0, 0, 1, 2) = -1; meta(4) = 1");
        test("8 above the greatest by one", writing.again().after("publish(0, 0, 5, 1)"), "publish(0, 0, 6, 2) = 1; meta(4) = 2");
        test("8 of each producer its own", writing.again().after("publish(0, 0, 5, 1)"), "publish(0, 1, 5, 2) = 1; publish(0, 2, 4, 2) = 2; publish(0, 3, 1, 2) = 3");
        test("8 a refused one is not known", Beginnings.sixConfirmed(), "publish(0, 0, 9, 1) ! IOOBE; close(0) = 5; open(0, 0) = 1; publish(0, 0, 7, 1) = 8; publish(0, 0, 8, 1) = 9; publish(0, 0, 9, 1) = 10");
        test("8 one that was not found is not known", Beginnings.oneConfirmed().after("publish(0, 0, 2, 1); own(1); fence(1, 0); fence(1, 1); close(1); open(1, 0)"), "publish(1, 0, 1, 1) = -2; publish(1, 0, 2, 1) = 8; meta(4) = 3");
    }

    private static void publishRepeated() {
        Run writing = Beginnings.small().after("own(0); open(0, 0)");
        Run half = Beginnings.small().after("own(0); open(0, 0); publish(0, 0, 5, 1); add(0, 0); add(0, 1); sync(0); sync(1); publish(0, 0, 8, 1)");
        test("8 none is confirmed: -1, and nothing is heard", writing.again().after("publish(0, 0, 5, 1)"), "publish(0, 0, 1, 1) = -1; publish(0, 0, 5, 1) = -1; heard(0) = 0");
        test("8 the greatest that is confirmed: -2", half.again(), "publish(0, 0, 5, 1) = -2; heard(0) = 5");
        test("8 one above the greatest that is confirmed: -1", half.again(), "publish(0, 0, 6, 1) = -1; publish(0, 0, 8, 1) = -1; heard(0) = 5");
        test("8 one below the greatest that is confirmed: -2", half.again(), "publish(0, 0, 4, 1) = -2; publish(0, 0, 1, 1) = -2; heard(0) = 5");
        test("8 confirmed of another producer", half.again().after("publish(0, 1, 3, 1)"), "publish(0, 1, 3, 1) = -1; heard(1) = 0");
        Run latest = Beginnings.small().after("own(0); open(0, 0); publish(0, 0, 5, 1); add(0, 0); own(1); fence(1, 0); fence(1, 1); add(1, 1); close(1); open(1, 0)");
        test("8 the latest of the closed ledger before: -2, and it is heard", latest.again(), "heard(0) = 0; publish(1, 0, 5, 1) = -2; heard(0) = 5");
        test("8 below the latest: -2, and that is heard", latest.again(), "publish(1, 0, 2, 1) = -2; heard(0) = 2; publish(1, 0, 1, 1) = -2; heard(0) = 2");
        test("8 one above the latest", latest.again(), "publish(1, 0, 6, 1) = 8; publish(1, 0, 6, 1) = -1; heard(0) = 0");
        test("8 the latest of a ledger further before", latest.again().after("close(1); open(1, 0)"), "publish(1, 0, 5, 1) = -2; publish(1, 0, 6, 1) = 16");
        test("8 the latest of a ledger that is trimmed", Beginnings.emptyLedgers(1).after("trim(0); open(0, 0)"), "meta(3) = 1; publish(0, 0, 1, 1) = 8");
        test("8 a repeated one is no entry", half.again(), "publish(0, 0, 8, 7) = -1; publish(0, 0, 5, 7) = -2; meta(4) = 2; publish(0, 0, 9, 7) = 2; message(3, 2) = 7");
    }

    private static void publishNoRoom() {
        Run five = Beginnings.small().after("own(0); open(0, 0); publish(0, 0, 1, 1); publish(0, 0, 2, 1); publish(0, 0, 3, 1); publish(0, 0, 4, 1); publish(0, 0, 5, 1)");
        test("8 the sixth entry", five.again(), "publish(0, 1, 1, 1) = 5; meta(4) = 6");
        test("8 six entries", five.again().after("publish(0, 0, 6, 1)"), "publish(0, 0, 7, 1) ! IOOBE; publish(0, 1, 1, 1) ! IOOBE; meta(4) = 6; message(7, 1) = 0; broker(0, 0) = 3");
        test("8 six entries, and it is repeated", five.again().after("publish(0, 0, 6, 1)"), "publish(0, 0, 6, 1) = -1");
        test("8 the first entry of the next ledger", Beginnings.sixConfirmed().after("close(0); open(0, 0)"), "publish(0, 0, 7, 1) = 8; meta(4) = 7; add(0, 0) = 1; entry(0, 8) = 107");
        Run last = new Run(3, 1, 1, 1).after("own(0)");
        for (int l = 0; l < 9; l++) {
            last.after("open(0, 0)");
            for (int q = 6 * l + 1; q <= 6 * l + 6; q++) {
                last.after("publish(0, 1, " + q + ", 1)");
            }
            last.after("add(0, 0); sync(0); close(0)");
        }
        last.after("open(0, 0); publish(0, 1, 55, 1); publish(0, 1, 56, 1); publish(0, 1, 57, 1); publish(0, 1, 58, 1); publish(0, 1, 59, 1)");
        test("8 the sixtieth message", last, "meta(4) = 59; publish(0, 1, 60, 7) = 77; meta(4) = 60; message(60, 0) = 1; message(60, 1) = 60; message(60, 2) = 7");
        test("8 sixty messages", last, "publish(0, 1, 61, 1) ! IOOBE; publish(0, 0, 1, 1) ! IOOBE; meta(4) = 60; message(61, 1) = 0; publish(0, 1, 60, 1) = -1");
    }

    private static void attach() {
        test("9 OUT", Beginnings.small(), "attach(0, 0, 0) ! ISE");
        test("9 down", Beginnings.small().after("own(0); run(0, false)"), "attach(0, 0, 0) ! ISE; run(0, true); attach(0, 0, 0) ! ISE");
        test("9 READY, WRITING, RECOVERING", Beginnings.small().after("own(0)"), "attach(0, 0, 0); open(0, 0) = 0; attach(0, 0, 3); own(1) = 1; attach(1, 1, 0); attach(1, 1, 3)");
        test("9 it is already: it keeps its permits", Beginnings.oneConfirmed().after("attach(0, 0, 2); permit(0, 0, 2, 1)"), "attach(0, 0, 2) ! ISE; send(0, 0) = 200");
        test("9 in the other subscription, and at another broker", Beginnings.oneConfirmed().after("attach(0, 0, 2)"), "attach(0, 1, 2); own(1) = 1; attach(1, 0, 2); attach(1, 1, 2); attach(1, 1, 2) ! ISE");
        test("9 all four", Beginnings.small().after("own(0)"), "attach(0, 1, 0); attach(0, 1, 1); attach(0, 1, 2); attach(0, 1, 3); attach(0, 1, 0) ! ISE; attach(0, 1, 3) ! ISE");
        test("9 with no permits", Beginnings.oneConfirmed().after("attach(0, 0, 0); attach(0, 1, 3)"), "send(0, 0) ! NSEE; send(0, 1) ! NSEE");
        test("9 with no permits, though it had some", Beginnings.twoConfirmed().after("attach(0, 1, 3); permit(0, 1, 3, 9); detach(0, 1, 3); attach(0, 1, 3)"), "send(0, 1) ! NSEE; permit(0, 1, 3, 1); send(0, 1) = 300; send(0, 1) ! NSEE");
        test("9 outdated", readyOutdated(), "attach(0, 0, 0); broker(0, 0) = 2");
    }

    private static void detach() {
        test("10 OUT", Beginnings.small(), "detach(0, 0, 0) ! ISE");
        test("10 down", Beginnings.small().after("own(0); attach(0, 0, 0); run(0, false)"), "detach(0, 0, 0) ! ISE; run(0, true); detach(0, 0, 0) ! ISE");
        test("10 none is attached", Beginnings.small().after("own(0)"), "detach(0, 0, 0) ! ISE; detach(0, 1, 3) ! ISE");
        test("10 another is attached", Beginnings.small().after("own(0); attach(0, 0, 0)"), "detach(0, 0, 1) ! ISE; detach(0, 1, 0) ! ISE; detach(0, 0, 0); detach(0, 0, 0) ! ISE");
        test("10 nothing was sent to it", Beginnings.twoConfirmed().after("attach(0, 1, 0); attach(0, 1, 1); permit(0, 1, 1, 9); send(0, 1)"), "detach(0, 1, 0); send(0, 1) = 101; ack(0, 1, 1, 0, false) = 1");
        test("10 what was sent to it is not sent", Beginnings.twoConfirmed().after("attach(0, 0, 0); permit(0, 0, 0, 9); send(0, 0); send(0, 0)"), "detach(0, 0, 0); ack(0, 0, 0, 0, false) ! NSEE; attach(0, 0, 0); ack(0, 0, 0, 1, false) ! NSEE; attach(0, 0, 3); permit(0, 0, 0, 9); send(0, 0) = 0; send(0, 0) = 1");
        test("10 what is acked stays so", Beginnings.twoConfirmed().after("attach(0, 0, 0); permit(0, 0, 0, 9); send(0, 0); send(0, 0); ack(0, 0, 0, 0, false)"), "detach(0, 0, 0); acked(0, 0, 0) = true; acked(0, 0, 1) = false; attach(0, 0, 0); permit(0, 0, 0, 9); send(0, 0) = 1; send(0, 0) ! NSEE");
        test("10 what was sent to another stays so", Beginnings.twoConfirmed().after("attach(0, 1, 0); attach(0, 1, 3); permit(0, 1, 0, 1); permit(0, 1, 3, 9); send(0, 1); send(0, 1)"), "detach(0, 1, 0); ack(0, 1, 3, 1, false) = 1; send(0, 1) = 300");
        test("10 of that subscription alone", Beginnings.twoConfirmed().after("attach(0, 0, 0); attach(0, 1, 0); permit(0, 0, 0, 9); permit(0, 1, 0, 9); send(0, 0); send(0, 1)"), "detach(0, 0, 0); ack(0, 1, 0, 0, false) = 1; send(0, 1) = 1");
        test("10 the last position of all", Beginnings.allFull().after("attach(0, 0, 0); permit(0, 0, 0, 100);" + "send(0, 0);".repeat(60)), "ack(0, 0, 0, 76, true) = 59; detach(0, 0, 0); attach(0, 0, 3); permit(0, 0, 3, 2); send(0, 0) = 377; send(0, 0) ! NSEE");
    }

    private static void permit() {
        Run attached = Beginnings.twoConfirmed().after("attach(0, 0, 2)");
        test("11 OUT", Beginnings.small(), "permit(0, 0, 0, 1) ! ISE");
        test("11 down", attached.again().after("run(0, false)"), "permit(0, 0, 2, 1) ! ISE");
        test("11 not attached", attached.again(), "permit(0, 0, 1, 1) ! ISE; permit(0, 1, 2, 1) ! ISE; attach(0, 1, 2); send(0, 1) ! NSEE");
        test("11 not attached any more", attached.again().after("detach(0, 0, 2)"), "permit(0, 0, 2, 1) ! ISE; attach(0, 0, 2); send(0, 0) ! NSEE");
        test("11 n less than 1", attached.again(), "permit(0, 0, 2, 0) ! IAE; permit(0, 0, 2, -1) ! IAE; send(0, 0) ! NSEE");
        test("11 n is 1", attached.again(), "permit(0, 0, 2, 1); send(0, 0) = 200; send(0, 0) ! NSEE");
        test("11 n is 100", Beginnings.allFull().after("attach(0, 0, 2)"), "permit(0, 0, 2, 100); send(0, 0) = 200; send(0, 0) = 201");
        test("11 n more than 100", attached.again(), "permit(0, 0, 2, 101) ! IAE; permit(0, 0, 2, 2147483647) ! IAE; send(0, 0) ! NSEE");
        test("11 n more, not n", attached.again(), "permit(0, 0, 2, 1); permit(0, 0, 2, 1); send(0, 0) = 200; send(0, 0) = 201");
        // That it has no more than 1000 can't be seen: there are sixty positions to send while it is attached.
        Run many = Beginnings.allFull().after("attach(0, 0, 3);" + "permit(0, 0, 3, 100);".repeat(10));
        test("11 at most 1000: the rest is lost, but it is not refused", many, "permit(0, 0, 3, 100); permit(0, 0, 3, 1)");
        for (int i = 0; i < 60; i++) {
            test("11 at most 1000: no more than the rest is lost", many, "send(0, 0) = " + (300 + 8 * (i / 6) + i % 6));
        }
        test("11 at most 1000: all is sent", many, "send(0, 0) ! NSEE");
    }

    private static void sendNothing() {
        Run waiting = Beginnings.small().after("own(0); attach(0, 0, 0); attach(0, 1, 0); permit(0, 0, 0, 9); permit(0, 1, 0, 9)");
        test("12 OUT", Beginnings.oneConfirmed(), "send(1, 0) ! ISE; send(1, 1) ! ISE");
        test("12 down", Beginnings.oneConfirmed().after("run(0, false)"), "send(0, 0) ! ISE");
        test("12 no ledgers", waiting.again(), "send(0, 0) ! NSEE; send(0, 1) ! NSEE");
        test("12 no entries", waiting.again().after("open(0, 0)"), "send(0, 0) ! NSEE; close(0) = -1; send(0, 0) ! NSEE; send(0, 1) ! NSEE");
        test("12 none is confirmed", waiting.again().after("open(0, 0); publish(0, 0, 1, 1); add(0, 0); add(0, 1); sync(0)"), "send(0, 0) ! NSEE; sync(1) = 1; send(0, 0) = 0; send(0, 0) ! NSEE; send(0, 1) = 0");
        test("12 over a ledger without entries", waiting.again().after("open(0, 0); close(0); open(0, 0); publish(0, 0, 1, 1); add(0, 0); add(0, 1); sync(0); sync(1)"), "send(0, 0) = 8; send(0, 0) ! NSEE");
        test("12 all is sent", Beginnings.oneConfirmed().after("attach(0, 0, 0); permit(0, 0, 0, 9); send(0, 0)"), "send(0, 0) ! NSEE; ack(0, 0, 0, 0, false) = 1");
        test("12 all is acked", Beginnings.oneConfirmed().after("attach(0, 0, 0); permit(0, 0, 0, 9); send(0, 0); ack(0, 0, 0, 0, false)"), "send(0, 0) ! NSEE; detach(0, 0, 0); attach(0, 0, 0); permit(0, 0, 0, 9); send(0, 0) ! NSEE");
        test("12 all is saved", Beginnings.oneConfirmed().after("attach(0, 0, 0); permit(0, 0, 0, 9); send(0, 0); ack(0, 0, 0, 0, false); save(0); close(0); own(1); attach(1, 0, 0); permit(1, 0, 0, 9); attach(1, 1, 0); permit(1, 1, 0, 9)"), "send(1, 0) ! NSEE; send(1, 1) = 0");
        test("12 RECOVERING, the ledger is not closed", recovering().after("attach(1, 0, 0); permit(1, 0, 0, 9); fence(1, 0); fence(1, 1); fence(1, 2)"), "broker(1, 2) = 2; send(1, 0) ! NSEE; close(1) = 1; send(1, 0) = 0; send(1, 0) = 1; send(1, 0) ! NSEE");
        test("12 from the base on", Beginnings.oneConfirmed().after("close(0); attach(0, 0, 0); permit(0, 0, 0, 9); own(1); attach(1, 0, 0); permit(1, 0, 0, 9); attach(1, 1, 0); permit(1, 1, 0, 9);"
                + "send(1, 0); send(1, 1); ack(1, 0, 0, 0, false); ack(1, 1, 0, 0, false); save(1); trim(1)"), "meta(3) = 1; acked(0, 0, 0) = false; send(0, 0) ! NSEE");
        test("12 a ledger that another is WRITING", recovering().after("attach(0, 0, 0); permit(0, 0, 0, 9); fence(1, 0); fence(1, 1); fence(1, 2); close(1); open(1, 0); publish(1, 0, 2, 2); add(1, 0); add(1, 1); sync(0); sync(1)"),
                "broker(0, 2) = 2; broker(1, 2) = 1; send(0, 0) = 0; send(0, 0) = 1; send(0, 0) ! NSEE; close(1) = 0; send(0, 0) = 8");
        test("12 a closed ledger: 0 .. last, not what it had confirmed", Beginnings.twoConfirmed().after("attach(0, 0, 0); permit(0, 0, 0, 9); power(1, false); wipe(1); power(1, true); power(2, false); wipe(2); power(2, true); own(1); fence(1, 0); fence(1, 1); fence(1, 2); add(1, 1); close(1); power(2, false); wipe(2); power(2, true); add(0, 2); sync(2)"),
                "broker(0, 0) = 3; broker(0, 2) = 2; entry(2, 1) = 2; ledger(0, 1) = 0; send(0, 0) = 0; send(0, 0) ! NSEE");
        test("12 the last position", Beginnings.allFull().after("attach(0, 0, 3); permit(0, 0, 3, 100);" + "send(0, 0);".repeat(59)), "send(0, 0) = 377; send(0, 0) ! NSEE; ack(0, 0, 3, 77, true) = 60");
    }

    private static void sendInTurn() {
        test("12 no consumer", Beginnings.oneConfirmed(), "send(0, 0) ! NSEE; send(0, 1) ! NSEE");
        test("12 attached in the other subscription", Beginnings.oneConfirmed().after("attach(0, 0, 0); permit(0, 0, 0, 1)"), "send(0, 1) ! NSEE; send(0, 0) = 0");
        test("12 one permit less", Beginnings.sixConfirmed().after("attach(0, 0, 1); attach(0, 1, 1); permit(0, 0, 1, 2); permit(0, 1, 1, 2)"), "send(0, 0) = 100; send(0, 0) = 101; send(0, 0) ! NSEE; send(0, 1) = 100; send(0, 1) = 101; send(0, 1) ! NSEE");
        test("12 subscription 0: the lowest has no permit", Beginnings.oneConfirmed().after("attach(0, 0, 1); attach(0, 0, 2); permit(0, 0, 2, 9)"), "send(0, 0) ! NSEE; permit(0, 0, 1, 1); send(0, 0) = 100");
        test("12 subscription 0: a lower one comes", Beginnings.twoConfirmed().after("attach(0, 0, 3); permit(0, 0, 3, 9); send(0, 0); attach(0, 0, 0)"), "send(0, 0) ! NSEE; permit(0, 0, 0, 1); send(0, 0) = 1");
        test("12 subscription 0: the lowest again and again", Beginnings.sixConfirmed().after("attach(0, 0, 0); attach(0, 0, 1); permit(0, 0, 0, 2); permit(0, 0, 1, 9)"), "send(0, 0) = 0; send(0, 0) = 1; send(0, 0) ! NSEE; detach(0, 0, 0); send(0, 0) = 100");
        Run four = Beginnings.sixConfirmed().after("attach(0, 1, 0); attach(0, 1, 1); attach(0, 1, 2); attach(0, 1, 3)");
        test("12 subscription 1: none has a permit", four.again(), "send(0, 1) ! NSEE");
        test("12 subscription 1: at first from 0 on", four.again().after("permit(0, 1, 0, 9); permit(0, 1, 3, 9)"), "send(0, 1) = 0");
        test("12 subscription 1: at first from 0 on, the first with a permit", four.again().after("permit(0, 1, 3, 9); permit(0, 1, 2, 9)"), "send(0, 1) = 200");
        test("12 subscription 1: round from 3 to 0", four.again().after("permit(0, 1, 0, 9); permit(0, 1, 1, 9); permit(0, 1, 2, 9); permit(0, 1, 3, 9)"), "send(0, 1) = 0; send(0, 1) = 101; send(0, 1) = 202; send(0, 1) = 303; send(0, 1) = 4; send(0, 1) = 105");
        test("12 subscription 1: round to itself", four.again().after("permit(0, 1, 2, 3)"), "send(0, 1) = 200; send(0, 1) = 201; send(0, 1) = 202; send(0, 1) ! NSEE");
        test("12 subscription 1: behind it, not the lowest", four.again().after("permit(0, 1, 1, 9); send(0, 1); permit(0, 1, 0, 9); permit(0, 1, 3, 9)"), "send(0, 1) = 301; send(0, 1) = 2; send(0, 1) = 103");
        test("12 subscription 1: one without a permit is passed over", four.again().after("permit(0, 1, 0, 9); permit(0, 1, 1, 1); permit(0, 1, 2, 9)"), "send(0, 1) = 0; send(0, 1) = 101; send(0, 1) = 202; send(0, 1) = 3; send(0, 1) = 204");
        test("12 subscription 1: behind one that is not attached any more", four.again().after("permit(0, 1, 0, 9); permit(0, 1, 1, 9); permit(0, 1, 2, 9); send(0, 1); send(0, 1); ack(0, 1, 1, 1, false); detach(0, 1, 1)"), "send(0, 1) = 202; send(0, 1) = 3");
        test("12 subscription 1: a refused one is no turn", four.again().after("permit(0, 1, 0, 9); permit(0, 1, 1, 9); send(0, 1); power(0, false)"), "send(0, 1) ! NSEE; power(0, true); send(0, 1) = 101");
        test("12 subscription 1: of each broker its own", four.again().after("permit(0, 1, 0, 9); permit(0, 1, 1, 9); send(0, 1); close(0); own(1); attach(1, 1, 0); attach(1, 1, 1); permit(1, 1, 0, 9); permit(1, 1, 1, 9)"), "send(1, 1) = 0; send(0, 1) = 101; send(1, 1) = 101");
        test("12 subscription 1: since it became the owner", four.again().after("permit(0, 1, 0, 9); permit(0, 1, 1, 9); send(0, 1); close(0); own(0); attach(0, 1, 0); attach(0, 1, 1); permit(0, 1, 0, 9); permit(0, 1, 1, 9)"), "send(0, 1) = 0; send(0, 1) = 101");
    }

    private static void sendReadable() {
        Run ready = Beginnings.twoConfirmed().after("attach(0, 0, 0); permit(0, 0, 0, 9)");
        test("12 one bookie of the write set is up", ready.again().after("power(0, false)"), "send(0, 0) = 0");
        test("12 one bookie of the write set is up: the other", ready.again().after("power(1, false)"), "send(0, 0) = 0");
        test("12 none of the write set is up", ready.again().after("power(0, false); power(1, false)"), "send(0, 0) ! NSEE; power(1, true); send(0, 0) = 0");
        test("12 none that is up has it", ready.again().after("power(0, false); wipe(0); power(0, true); power(1, false)"), "send(0, 0) ! NSEE; entry(1, 0) = 1; power(1, true); send(0, 0) = 0");
        test("12 none has it any more", ready.again().after("power(0, false); wipe(0); power(0, true); power(1, false); wipe(1); power(1, true)"), "send(0, 0) ! NSEE; add(0, 0) = 1; send(0, 0) = 0");
        test("12 the first one, not the next that could be read", new Run(3, 2, 1, 1).after("own(0); open(0, 0); publish(0, 0, 1, 1); publish(0, 0, 2, 1); add(0, 0); add(0, 1); sync(0); sync(1); attach(0, 0, 0); permit(0, 0, 0, 9); power(0, false)"), "broker(0, 2) = 2; send(0, 0) ! NSEE; power(0, true); send(0, 0) = 0; power(0, false); send(0, 0) = 1");
        test("12 a permit is not used up by a refusal", Beginnings.oneConfirmed().after("attach(0, 0, 0); permit(0, 0, 0, 1); power(0, false); power(1, false)"), "send(0, 0) ! NSEE; power(0, true); send(0, 0) = 0; send(0, 0) ! NSEE");
    }

    private static void ackRefused() {
        Run sent = Beginnings.twoConfirmed().after("attach(0, 1, 0); attach(0, 1, 3); permit(0, 1, 0, 9); permit(0, 1, 3, 9); send(0, 1)");
        test("13 OUT", Beginnings.oneConfirmed(), "ack(1, 0, 0, 0, false) ! ISE");
        test("13 down", sent.again().after("run(0, false)"), "ack(0, 1, 0, 0, false) ! ISE; acked(0, 1, 0) = false");
        test("13 it was sent", sent.again(), "ack(0, 1, 0, 0, false) = 1; acked(0, 1, 0) = true");
        test("13 it was not sent", sent.again(), "ack(0, 1, 0, 1, false) ! NSEE; ack(0, 1, 0, 1, true) ! NSEE; acked(0, 1, 0) = false; acked(0, 1, 1) = false");
        test("13 it was sent to another", sent.again(), "ack(0, 1, 3, 0, false) ! NSEE; acked(0, 1, 0) = false");
        test("13 it was sent in the other subscription", sent.again(), "ack(0, 0, 0, 0, false) ! NSEE; acked(0, 0, 0) = false; acked(0, 1, 0) = false");
        test("13 it was sent by another broker", sent.again().after("close(0); own(1); attach(1, 1, 0); permit(1, 1, 0, 9)"), "ack(1, 1, 0, 0, false) ! NSEE; acked(1, 1, 0) = false; ack(0, 1, 0, 0, false) = 1");
        test("13 it is acked", sent.again().after("ack(0, 1, 0, 0, false)"), "ack(0, 1, 0, 0, false) ! NSEE; ack(0, 1, 0, 0, true) ! NSEE; acked(0, 1, 0) = true");
        test("13 it is acked by one behind it", sent.again().after("send(0, 1); ack(0, 1, 3, 1, true)"), "acked(0, 1, 0) = true; ack(0, 1, 0, 0, false) ! NSEE");
        test("13 it is acked, and the consumer detached since", sent.again().after("ack(0, 1, 0, 0, false); detach(0, 1, 0)"), "ack(0, 1, 0, 0, false) ! NSEE");
        test("13 no such position", sent.again(), "ack(0, 1, 0, -1, true) ! NSEE; ack(0, 1, 0, 6, true) ! NSEE; ack(0, 1, 0, 7, true) ! NSEE; ack(0, 1, 0, 8, true) ! NSEE; ack(0, 1, 0, 77, true) ! NSEE; ack(0, 1, 0, 80, true) ! NSEE",
                "ack(0, 1, 0, 2147483647, true) ! NSEE; ack(0, 1, 0, -2147483648, true) ! NSEE; acked(0, 1, 0) = false");
        test("13 outdated", sent.again().after("own(1)"), "ack(0, 1, 0, 0, false) = 1; broker(0, 0) = 3; acked(0, 1, 0) = true");
    }

    private static void ackAll() {
        Run sent = Beginnings.sixConfirmed().after("attach(0, 1, 0); attach(0, 1, 1); permit(0, 1, 0, 9); permit(0, 1, 1, 9); send(0, 1); send(0, 1); send(0, 1); send(0, 1)");
        test("13 all: none before it", sent.again(), "ack(0, 1, 0, 0, true) = 1; acked(0, 1, 0) = true; acked(0, 1, 1) = false");
        test("13 all: those before it, none behind it", sent.again(), "ack(0, 1, 0, 2, true) = 3; acked(0, 1, 0) = true; acked(0, 1, 1) = true; acked(0, 1, 2) = true; acked(0, 1, 3) = false");
        test("13 all: some are acked already", sent.again().after("ack(0, 1, 1, 1, false)"), "ack(0, 1, 1, 3, true) = 3");
        test("13 all: all are acked already", sent.again().after("ack(0, 1, 0, 0, false); ack(0, 1, 1, 1, false)"), "ack(0, 1, 0, 2, true) = 1");
        test("13 not all: it alone", sent.again(), "ack(0, 1, 1, 3, false) = 1; acked(0, 1, 2) = false; acked(0, 1, 0) = false");
        test("13 all: also what is not sent", sent.again().after("detach(0, 1, 0)"), "ack(0, 1, 1, 3, true) = 4; send(0, 1) = 104");
        test("13 all: of this subscription alone", sent.again(), "ack(0, 1, 1, 3, true) = 4; acked(0, 0, 0) = false; acked(0, 0, 3) = false");
        test("13 all: the first of the second ledger", Beginnings.twoConfirmed().after("close(0); open(0, 0); publish(0, 0, 2, 2); publish(0, 0, 3, 3); add(0, 0); add(0, 1); add(0, 2); sync(0); sync(1); sync(2); attach(0, 0, 0); permit(0, 0, 0, 9); send(0, 0); send(0, 0); send(0, 0); send(0, 0)"),
                "ack(0, 0, 0, 8, true) = 3; acked(0, 0, 1) = true; acked(0, 0, 2) = false; acked(0, 0, 7) = false; acked(0, 0, 8) = true; acked(0, 0, 9) = false");
        test("13 all: from the base on", Beginnings.twoConfirmed().after("attach(0, 0, 0); permit(0, 0, 0, 9); send(0, 0); send(0, 0); close(0); own(1); attach(1, 0, 0); attach(1, 1, 0); permit(1, 0, 0, 9); permit(1, 1, 0, 9);"
                + "send(1, 0); send(1, 0); send(1, 1); send(1, 1); ack(1, 0, 0, 1, true); ack(1, 1, 0, 1, true); save(1); trim(1)"), "meta(3) = 1; ack(0, 0, 0, 1, true) = 1; acked(0, 0, 0) = false; acked(0, 0, 1) = true");
        test("13 all: the end of a ledger that was closed since", Beginnings.small().after("own(0); open(0, 0); publish(0, 0, 1, 1); publish(0, 0, 2, 1); publish(0, 0, 3, 1); add(0, 0); add(0, 1); add(0, 2); sync(0); sync(1); sync(2); attach(0, 1, 0); attach(0, 1, 1); permit(0, 1, 0, 9); permit(0, 1, 1, 9); send(0, 1); send(0, 1); send(0, 1);"
                + "power(1, false); wipe(1); power(1, true); power(2, false); wipe(2); power(2, true); own(1); fence(1, 0); fence(1, 1); fence(1, 2); add(1, 1); close(1)"), "ledger(0, 1) = 0; ack(0, 1, 0, 2, true) = 2; acked(0, 1, 0) = true; acked(0, 1, 1) = false; acked(0, 1, 2) = true");
    }

    private static void save() {
        test("14 OUT", Beginnings.small(), "save(0) ! ISE; meta(0) = 0");
        test("14 down", Beginnings.small().after("own(0); run(0, false)"), "save(0) ! ISE; meta(0) = 1");
        test("14 nothing is acked: META is changed all the same", Beginnings.small().after("own(0)"), "save(0) = 0; meta(0) = 2; broker(0, 3) = 2");
        test("14 READY, WRITING, RECOVERING", Beginnings.small().after("own(0)"), "save(0) = 0; open(0, 0) = 0; save(0) = 0; own(1) = 1; save(1) = 0; meta(0) = 6; broker(1, 0) = 1; broker(1, 3) = 6");
        Run acked = Beginnings.twoConfirmed().after("attach(0, 0, 0); attach(0, 1, 0); permit(0, 0, 0, 9); permit(0, 1, 0, 9); send(0, 0); send(0, 0); send(0, 1); ack(0, 0, 0, 1, true)");
        test("14 what is not acked is not saved", acked.again(), "save(0) = 2; acked(-1, 0, 0) = true; acked(-1, 0, 1) = true; acked(-1, 1, 0) = false");
        test("14 what is acked is not saved before", acked.again(), "acked(0, 0, 0) = true; acked(-1, 0, 0) = false");
        test("14 it was saved already", acked.again().after("save(0)"), "save(0) = 0; meta(0) = 4; ack(0, 1, 0, 0, false) = 1; save(0) = 1; acked(-1, 1, 0) = true");
        test("14 outdated", acked.again().after("own(1)"), "save(0) ! UOE; broker(0, 0) = 0; acked(-1, 0, 0) = false; acked(0, 0, 0) = false; meta(0) = 3");
        test("14 all sixty of both", Beginnings.allFull().after("attach(0, 0, 0); attach(0, 1, 0); permit(0, 0, 0, 100); permit(0, 1, 0, 100);" + "send(0, 0); send(0, 1);".repeat(60) + "ack(0, 0, 0, 77, true); ack(0, 1, 0, 77, true)"), "save(0) = 120; save(0) = 0; trim(0) = 10; meta(3) = 10; acked(-1, 0, 77) = true; acked(-1, 1, 0) = true");
    }

    private static void trim() {
        test("15 OUT", Beginnings.emptyLedgers(1), "trim(1) ! ISE; meta(3) = 0");
        test("15 down", Beginnings.emptyLedgers(1).after("run(0, false)"), "trim(0) ! ISE; meta(3) = 0");
        test("15 outdated", Beginnings.emptyLedgers(1).after("own(1)"), "trim(0) ! UOE; meta(3) = 0; broker(0, 0) = 0; meta(0) = 4");
        test("15 no ledgers: META is changed all the same", Beginnings.small().after("own(0)"), "trim(0) = 0; meta(0) = 2; broker(0, 3) = 2; meta(3) = 0");
        test("15 READY, WRITING, RECOVERING", Beginnings.emptyLedgers(1), "trim(0) = 1; open(0, 0) = 1; trim(0) = 0; own(1) = 1; trim(1) = 0; meta(3) = 1");
        test("15 an open ledger without entries", Beginnings.small().after("own(0); open(0, 0)"), "trim(0) = 0; meta(3) = 0; close(0) = -1; trim(0) = 1; meta(3) = 1");
        test("15 a ledger that is FENCING", Beginnings.small().after("own(0); open(0, 0); own(1)"), "trim(1) = 0; meta(3) = 0");
        test("15 ten ledgers", Beginnings.emptyLedgers(10), "trim(0) = 10; meta(3) = 10; trim(0) = 0; meta(3) = 10; own(0) = 2; trim(0) = 0");
        test("15 nine and one that is not closed", Beginnings.emptyLedgers(9).after("open(0, 0)"), "trim(0) = 9; meta(3) = 9");
    }

    private static void trimUpTo() {
        Run closed = Beginnings.twoConfirmed().after("attach(0, 0, 0); attach(0, 1, 0); permit(0, 0, 0, 9); permit(0, 1, 0, 9); send(0, 0); send(0, 0); send(0, 1); send(0, 1); close(0)");
        test("15 nothing is saved", closed.again(), "trim(0) = 0; meta(3) = 0; entry(0, 0) = 1");
        test("15 saved for subscription 0 alone", closed.again().after("ack(0, 0, 0, 1, true); save(0)"), "trim(0) = 0; meta(3) = 0; entry(0, 0) = 1");
        test("15 saved for subscription 1 alone", closed.again().after("ack(0, 1, 0, 1, true); save(0)"), "trim(0) = 0; meta(3) = 0; entry(0, 0) = 1");
        test("15 all but the last entry", closed.again().after("ack(0, 0, 0, 1, true); ack(0, 1, 0, 0, true); save(0)"), "trim(0) = 0; ack(0, 1, 0, 1, true) = 1; save(0) = 1; trim(0) = 1");
        test("15 all but the first entry", closed.again().after("ack(0, 0, 0, 1, true); ack(0, 1, 0, 1, false); save(0)"), "trim(0) = 0; ack(0, 1, 0, 0, true) = 1; save(0) = 1; trim(0) = 1");
        Run acked = closed.again().after("ack(0, 0, 0, 1, true); ack(0, 1, 0, 1, true)");
        test("15 acked, but not saved", acked.again(), "trim(0) = 0; meta(3) = 0; save(0) = 4; trim(0) = 1");
        test("15 saved for both", acked.again().after("save(0)"), "trim(0) = 1; meta(3) = 1; meta(0) = 5; entry(0, 0) = 0; entry(1, 0) = 0; entry(1, 1) = 0; entry(2, 1) = 0; acked(-1, 0, 0) = true; ledger(0, 0) = 2; ledger(0, 1) = 1; ledger(0, 6) = 1");
        test("15 a bookie that is down keeps them", acked.again().after("save(0); power(1, false)"), "trim(0) = 1; entry(0, 0) = 0; entry(1, 0) = 1; entry(1, 1) = 2; entry(2, 1) = 0; power(1, true); entry(1, 0) = 1");
        test("15 all bookies are down", acked.again().after("save(0); power(0, false); power(1, false); power(2, false)"), "trim(0) = 1; meta(3) = 1; entry(0, 0) = 1; entry(2, 1) = 2");
        test("15 what is given again is not synced", Beginnings.oneConfirmed().after("own(1); fence(1, 0); fence(1, 1); close(1); attach(1, 0, 0); attach(1, 1, 0); permit(1, 0, 0, 1); permit(1, 1, 0, 1); send(1, 0); send(1, 1); ack(1, 0, 0, 0, false); ack(1, 1, 0, 0, false); save(1); power(0, false); wipe(0); power(0, true)"),
                "add(0, 0) = 1; sync(0) = 1; trim(1) = 1; entry(0, 0) = 0; add(0, 0) = 1; entry(0, 0) = 101; power(0, false); entry(0, 0) = 0");
        test("15 the next ledger keeps its entries", acked.again().after("save(0); open(0, 0); publish(0, 0, 9, 9); add(0, 0)"), "trim(0) = 1; entry(0, 0) = 0; entry(0, 8) = 103; sync(0) = 1");
        test("15 the base stops at one that is not done", acked.again().after("open(0, 0); publish(0, 0, 9, 9); add(0, 0); add(0, 1); sync(0); sync(1); close(0); open(0, 0); close(0); save(0)"), "trim(0) = 1; meta(3) = 1; meta(2) = 3; send(0, 0) = 8; ack(0, 0, 0, 8, true) = 1; send(0, 1) = 8; ack(0, 1, 0, 8, true) = 1; save(0) = 2; trim(0) = 2; meta(3) = 3");
    }

    private static void power() {
        test("16 up already", Beginnings.oneConfirmed().after("publish(0, 1, 1, 1); add(0, 1)"), "power(1, true) ! ISE; entry(1, 1) = 102");
        test("16 down already", Beginnings.oneConfirmed().after("power(0, false)"), "power(0, false) ! ISE; entry(0, 0) = 1; sync(0) ! ISE; power(0, true); sync(0) = 0");
        test("16 what is not synced is lost", Beginnings.oneConfirmed().after("publish(0, 1, 1, 1); add(0, 1)"), "power(1, false); entry(1, 0) = 1; entry(1, 1) = 0; power(1, true); entry(1, 0) = 1; entry(1, 1) = 0; sync(1) = 0");
        test("16 all is synced, nothing is lost", Beginnings.twoConfirmed(), "power(1, false); entry(1, 0) = 1; entry(1, 1) = 2");
        test("16 it has nothing", Beginnings.small(), "power(2, false); power(2, true); power(2, true) ! ISE");
        test("16 fences stay", recovering().after("fence(1, 0)"), "power(0, false); fenced(0, 0) = true; power(0, true); fenced(0, 0) = true");
        test("16 other bookies stay", Beginnings.oneConfirmed().after("publish(0, 1, 1, 1); add(0, 1); add(0, 2)"), "power(1, false); entry(2, 1) = 102; entry(0, 0) = 1; power(0, true) ! ISE; power(2, true) ! ISE");
    }

    private static void wipe() {
        test("17 up", Beginnings.oneConfirmed(), "wipe(0) ! ISE; entry(0, 0) = 1");
        test("17 up again", Beginnings.oneConfirmed().after("power(0, false); power(0, true)"), "wipe(0) ! ISE; entry(0, 0) = 1");
        test("17 it has nothing", Beginnings.small().after("power(0, false)"), "wipe(0); wipe(0); power(0, true); entry(0, 0) = 0");
        test("17 all entries, of all ledgers", oneClosed().after("open(0, 0); publish(0, 0, 2, 2); add(0, 0); sync(0); power(0, false)"), "entry(0, 0) = 1; entry(0, 8) = 2; wipe(0); entry(0, 0) = 0; entry(0, 8) = 0; entry(1, 0) = 1");
        test("17 all fences, of all ledgers", Beginnings.small().after("own(0); open(0, 0); own(0); fence(0, 0); fence(0, 1); close(0); open(0, 0); own(0); fence(0, 0); power(0, false)"), "fenced(0, 0) = true; fenced(0, 1) = true; wipe(0); fenced(0, 0) = false; fenced(0, 1) = false; fenced(1, 0) = true");
        test("17 it stays down", Beginnings.small().after("power(0, false); wipe(0)"), "power(0, false) ! ISE; power(0, true)");
        test("17 what is given again is not synced", Beginnings.oneConfirmed().after("power(0, false); wipe(0); power(0, true)"), "add(0, 0) = 1; entry(0, 0) = 101; power(0, false); entry(0, 0) = 0");
    }

    private static void run() {
        test("18 up already", Beginnings.oneConfirmed(), "run(0, true) ! ISE; broker(0, 0) = 3; run(1, true) ! ISE; broker(1, 0) = 0");
        test("18 down already", Beginnings.oneConfirmed().after("run(0, false)"), "run(0, false) ! ISE; broker(0, 0) = -1; run(0, true); broker(0, 0) = 0");
        test("18 one that is OUT", Beginnings.small(), "run(2, false); broker(2, 0) = -1; run(2, true); broker(2, 0) = 0");
        test("18 it is OUT then", Beginnings.oneConfirmed().after("attach(0, 0, 0)"), "run(0, false); broker(0, 0) = -1; broker(0, 1) = -1; broker(0, 2) = 0; broker(0, 3) = 0; run(0, true); broker(0, 0) = 0; detach(0, 0, 0) ! ISE; publish(0, 0, 2, 2) ! ISE; meta(1) = 0; ledger(0, 0) = 0");
        test("18 other brokers stay", recovering(), "run(1, false); broker(0, 0) = 3; broker(0, 2) = 2; run(2, true) ! ISE; meta(1) = 1");
    }

    private static void meta() {
        test("19 another what", Beginnings.oneConfirmed(), "meta(-1) = -1; meta(5) = -1; meta(2147483647) = -1; meta(-2147483648) = -1");
        test("19 no owner", Beginnings.small(), "meta(1) = -1; own(0) = 2; meta(1) = 0; own(2) = 2; meta(1) = 2; run(2, false); meta(1) = 2");
        test("19 each what", oneClosed().after("open(0, 0); close(0)"), "meta(0) = 5; meta(1) = 0; meta(2) = 2; meta(3) = 0; meta(4) = 1");
        test("19 the most that there is", Beginnings.allFull(), "meta(0) = 21; meta(2) = 10; meta(4) = 60");
    }

    private static void ledger() {
        Run closed = new Run(6, 4, 2, 1).after("own(0); open(0, 4); publish(0, 0, 3, 1); publish(0, 3, 1000, 1); add(0, 4); add(0, 5); sync(4); sync(5); close(0)");
        test("20 no ledgers", Beginnings.small(), "ledger(0, 0) = -2; ledger(0, 1) = -2; ledger(0, 2) = -2; ledger(0, 6) = -2; ledger(-1, 0) = -2");
        test("20 no such ledger", closed.again(), "ledger(-1, 0) = -2; ledger(1, 0) = -2; ledger(9, 0) = -2; ledger(10, 0) = -2; ledger(2147483647, 0) = -2; ledger(-2147483648, 0) = -2");
        test("20 the last one that there is", Beginnings.emptyLedgers(10), "ledger(9, 0) = 2; ledger(10, 0) = -2");
        test("20 no such what", closed.again(), "ledger(0, -1) = -2; ledger(0, 10) = -2; ledger(0, 2147483647) = -2; ledger(0, -2147483648) = -2");
        test("20 each what", closed.again(), "ledger(0, 0) = 2; ledger(0, 1) = 1; ledger(0, 2) = 4; ledger(0, 3) = 5; ledger(0, 4) = 0; ledger(0, 5) = 1; ledger(0, 6) = 3; ledger(0, 7) = 0; ledger(0, 8) = 0; ledger(0, 9) = 1000");
        test("20 -1 also if it is not closed, and 0", Beginnings.oneConfirmed(), "ledger(0, 0) = 0; ledger(0, 1) = -1; ledger(0, 6) = 0; own(1) = 1; ledger(0, 0) = 1; ledger(0, 1) = -1; ledger(0, 6) = 0");
        test("20 none at that place", new Run(3, 1, 1, 1).after("own(0); open(0, 2)"), "ledger(0, 2) = 2; ledger(0, 3) = -1; ledger(0, 4) = -1; ledger(0, 5) = -1");
        test("20 one that was trimmed", Beginnings.emptyLedgers(1).after("trim(0)"), "ledger(0, 0) = 2; ledger(0, 1) = -1; ledger(0, 2) = 0");
    }

    private static void entry() {
        test("21 no such bookie", Beginnings.oneConfirmed(), "entry(-1, 0) = 0; entry(3, 0) = 0; entry(2147483647, 0) = 0; entry(-2147483648, 0) = 0");
        test("21 no such position", Beginnings.sixConfirmed(), "entry(0, -1) = 0; entry(0, 5) = 6; entry(0, 6) = 0; entry(0, 7) = 0; entry(0, 8) = 0; entry(0, 80) = 0; entry(0, 2147483647) = 0; entry(0, -2147483648) = 0");
        test("21 it has none", Beginnings.oneConfirmed(), "entry(2, 0) = 0; entry(0, 1) = 0");
        test("21 plus 100 if it is not synced", Beginnings.small().after("own(0); open(0, 0); publish(0, 0, 1, 1); add(0, 0)"), "entry(0, 0) = 101; sync(0) = 1; entry(0, 0) = 1");
        test("21 also when it is down", Beginnings.oneConfirmed().after("power(0, false)"), "entry(0, 0) = 1");
        test("21 the last message", Beginnings.allFull(), "entry(0, 77) = 60; entry(0, 0) = 1; entry(1, 77) = 0");
    }

    private static void broker() {
        test("22 no such broker", Beginnings.small(), "broker(-1, 0) = -2; broker(3, 0) = -2; broker(2147483647, 0) = -2; broker(-2147483648, 0) = -2; broker(2, 0) = 0");
        test("22 no such what", Beginnings.oneConfirmed(), "broker(0, -1) = -2; broker(0, 4) = -2; broker(0, 2147483647) = -2; broker(0, -2147483648) = -2");
        test("22 down", Beginnings.oneConfirmed().after("run(0, false)"), "broker(0, 0) = -1; broker(0, 1) = -1; broker(0, 2) = 0; broker(0, 3) = 0; broker(0, 4) = -2");
        test("22 OUT", Beginnings.oneConfirmed(), "broker(1, 0) = 0; broker(1, 1) = -1; broker(1, 2) = 0; broker(1, 3) = 0");
        test("22 READY", oneClosed(), "broker(0, 0) = 2; broker(0, 1) = -1; broker(0, 2) = 0; broker(0, 3) = 3");
        test("22 WRITING: none, some and all are confirmed", Beginnings.small().after("own(0); open(0, 0)"), "broker(0, 2) = 0; publish(0, 0, 1, 1) = 0; broker(0, 2) = 0; add(0, 0) = 1; add(0, 1) = 1; sync(0) = 1; sync(1) = 1; broker(0, 2) = 1; publish(0, 0, 2, 1) = 1; broker(0, 2) = 1");
        test("22 WRITING: six are confirmed", Beginnings.sixConfirmed(), "broker(0, 2) = 6; broker(0, 1) = 0; broker(0, 3) = 2");
        test("22 RECOVERING: not enough replies", recovering().after("fence(1, 1)"), "broker(1, 0) = 1; broker(1, 1) = 0; broker(1, 2) = 0; fence(1, 2) = 1; broker(1, 2) = 2; broker(1, 3) = 3");
    }

    private static void message() {
        test("23 no messages", Beginnings.small(), "message(0, 0) = 0; message(1, 0) = 0; message(1, 1) = 0; message(1, 2) = 0");
        test("23 no such message", Beginnings.twoConfirmed(), "message(0, 1) = 0; message(-1, 1) = 0; message(3, 1) = 0; message(60, 1) = 0; message(61, 1) = 0; message(2147483647, 1) = 0; message(-2147483648, 1) = 0");
        test("23 no such what", Beginnings.twoConfirmed(), "message(2, -1) = 0; message(2, 3) = 0; message(2, 2147483647) = 0; message(2, -2147483648) = 0");
        test("23 the first and the last", Beginnings.twoConfirmed(), "message(1, 0) = 0; message(1, 1) = 1; message(1, 2) = 10; message(2, 0) = 1; message(2, 1) = 1; message(2, 2) = 11");
        test("23 the sixtieth", Beginnings.allFull(), "message(60, 0) = 1; message(60, 1) = 60; message(60, 2) = -60; message(61, 0) = 0; message(61, 1) = 0");
    }

    private static void heard() {
        test("24 no such producer", Beginnings.oneConfirmed(), "heard(-1) = 0; heard(4) = 0; heard(2147483647) = 0; heard(-2147483648) = 0");
        test("24 nothing", Beginnings.oneConfirmed(), "heard(0) = 1; heard(1) = 0; heard(2) = 0; heard(3) = 0");
        test("24 the greatest sequence", Beginnings.small().after("own(0); open(0, 0); publish(0, 3, 1000, 1); add(0, 0); add(0, 1); sync(0)"), "heard(3) = 0; sync(1) = 1; heard(3) = 1000");
    }

    private static void acked() {
        Run saved = Beginnings.allFull().after("attach(0, 1, 0); permit(0, 1, 0, 100);" + "send(0, 1);".repeat(60) + "ack(0, 1, 0, 77, true); save(0)");
        test("25 broker -1", saved.again(), "acked(-1, 1, 0) = true; acked(-1, 1, 77) = true; acked(-1, 0, 0) = false; acked(-1, 0, 77) = false");
        test("25 no such broker", saved.again(), "acked(-2, 1, 0) = false; acked(3, 1, 0) = false; acked(2147483647, 1, 0) = false; acked(-2147483648, 1, 0) = false; acked(0, 1, 0) = true");
        test("25 no such subscription", saved.again(), "acked(-1, -1, 0) = false; acked(-1, 2, 0) = false; acked(0, -1, 0) = false; acked(0, 2, 0) = false; acked(0, 2147483647, 0) = false; acked(0, -2147483648, 0) = false");
        test("25 no such position", saved.again(), "acked(-1, 1, -1) = false; acked(-1, 1, 6) = false; acked(-1, 1, 7) = false; acked(-1, 1, 78) = false; acked(-1, 1, 80) = false; acked(-1, 1, 2147483647) = false; acked(-1, 1, -2147483648) = false",
                "acked(0, 1, -1) = false; acked(0, 1, 78) = false; acked(0, 1, 80) = false; acked(0, 1, 2147483647) = false; acked(0, 1, -2147483648) = false");
        test("25 a broker that is OUT, or down", saved.again(), "acked(1, 1, 0) = false; run(0, false); acked(0, 1, 0) = false; acked(-1, 1, 0) = true; run(0, true); acked(0, 1, 0) = false");
    }

    private static void fenced() {
        Run fenced = Beginnings.emptyLedgers(9).after("open(0, 0); own(1); fence(1, 2)");
        test("26 none yet", recovering(), "fenced(0, 0) = false; fenced(1, 0) = false; fenced(2, 0) = false");
        test("26 the last ledger", fenced.again(), "fenced(2, 9) = true; fenced(2, 8) = false; fenced(1, 9) = false");
        test("26 no such bookie", fenced.again(), "fenced(-1, 9) = false; fenced(3, 9) = false; fenced(2147483647, 9) = false; fenced(-2147483648, 9) = false");
        test("26 no such ledger", fenced.again(), "fenced(2, -1) = false; fenced(2, 10) = false; fenced(2, 41) = false; fenced(2, -23) = false; fenced(2, 2147483647) = false; fenced(2, -2147483648) = false");
        test("26 also when it is down", fenced.again().after("power(2, false)"), "fenced(2, 9) = true");
    }
}
