/** What many runs begin with. */
final class Beginnings {
    private Beginnings() {
    }

    /** Ensemble 0, 1, 2; entries 0 .. 5 are to be on 01, 12, 20, 01, 12, 20; both must have it. */
    static Run small() {
        return new Run(3, 3, 2, 2);
    }

    /** Broker 0 is writing ledger 0, entry 0 of which is confirmed. */
    static Run oneConfirmed() {
        return small().after("own(0); open(0, 0); publish(0, 0, 1, 10); add(0, 0); add(0, 1); sync(0); sync(1)");
    }

    /** Broker 0 is writing ledger 0, entries 0 and 1 of which are confirmed. */
    static Run twoConfirmed() {
        return oneConfirmed().after("publish(0, 1, 1, 11); add(0, 1); add(0, 2); sync(1); sync(2)");
    }

    /** Broker 0 is writing ledger 0, six entries of which are confirmed; bookie 0 alone has them. */
    static Run sixConfirmed() {
        return new Run(3, 1, 1, 1).after("own(0); open(0, 0); publish(0, 0, 1, 1); publish(0, 0, 2, 1); publish(0, 0, 3, 1);"
                + "publish(0, 0, 4, 1); publish(0, 0, 5, 1); publish(0, 0, 6, 1); add(0, 0); sync(0)");
    }

    /** Broker 0 is READY; there are ten closed ledgers with six entries each, on bookie 0. */
    static Run allFull() {
        Run run = new Run(3, 1, 1, 1).after("own(0)");
        for (int l = 0; l < 10; l++) {
            run.after("open(0, 0)");
            for (int q = 6 * l + 1; q <= 6 * l + 6; q++) {
                run.after("publish(0, 1, " + q + ", " + -q + ")");
            }
            run.after("add(0, 0); sync(0); close(0)");
        }
        return run;
    }

    /** Broker 0 is READY; ledgers 0 .. count - 1 are closed without an entry. */
    static Run emptyLedgers(int count) {
        Run run = small().after("own(0)");
        for (int l = 0; l < count; l++) {
            run.after("open(0, 0); close(0)");
        }
        return run;
    }
}
