import java.util.ArrayList;
import java.util.List;

/** What the document counts by its sizes B, N, W and A, for all of them: where it goes round and where it is enough. */
public final class SizesTest {
    private static final Script SCRIPT = new Script();
    private static final int[] ODD = {Integer.MIN_VALUE, -1, 0, 1, 2, 3, 4, 5, 6, 7, Integer.MAX_VALUE};
    private static final int ENTRIES = 6;

    private final int bookies;
    private final int ensemble;
    private final int write;
    private final int ack;

    private SizesTest(int bookies, int ensemble, int write, int ack) {
        this.bookies = bookies;
        this.ensemble = ensemble;
        this.write = write;
        this.ack = ack;
    }

    public static void main(String[] args) {
        for (int bookies : ODD) {
            for (int ensemble : ODD) {
                for (int write : ODD) {
                    for (int ack : ODD) {
                        sizesAreBroughtTo(bookies, ensemble, write, ack);
                    }
                }
            }
        }
        for (int b = 3; b <= 6; b++) {
            for (int n = 1; n <= Math.min(b, 4); n++) {
                for (int w = 1; w <= n; w++) {
                    new SizesTest(b, n, w, 1).ensemblesAndWriteSets();
                    // Bookies that are not in the ensemble have no part in the counts.
                    for (int a = 1; a <= w && (b == 3 || b - n <= 1); a++) {
                        new SizesTest(b, n, w, a).counts();
                    }
                }
            }
        }
        SCRIPT.end();
    }

    /** What is less or more becomes the nearest. */
    private static int nearest(int x, int least, int most) {
        return x < least ? least : x > most ? most : x;
    }

    private static void sizesAreBroughtTo(int bookies, int ensemble, int write, int ack) {
        int b = nearest(bookies, 3, 6);
        int n = nearest(ensemble, 1, b > 4 ? 4 : b);
        int w = nearest(write, 1, n);
        int a = nearest(ack, 1, w);
        String name = "1 " + bookies + ", " + ensemble + ", " + write + ", " + ack;
        Run run = new Run(bookies, ensemble, write, ack).after("own(0); open(0, 0); publish(0, 0, 1, 1)");
        SCRIPT.checkNot(name, run, Call.of("sync(" + (b - 1) + ")"), "IAE");
        due(name, run, "fenced(" + b + ", 0)", "false");
        for (int i = 0; i < 4; i++) {
            due(name, run, "ledger(0, " + (2 + i) + ")", i < n ? i : -1);
        }
        due(name, run, "broker(0, 2)", 0);
        for (int k = 0; k < n; k++) {
            due(name, run, "add(0, " + k + ")", k < w ? 1 : 0);
        }
        for (int k = 0; k < w; k++) {
            due(name, run, "sync(" + k + ")", 1);
            due(name, run, "broker(0, 2)", k + 1 >= a ? 1 : 0);
        }
    }

    private static void due(String name, Run run, String call, Object answer) {
        SCRIPT.check(name, run, Call.of(call), String.valueOf(answer));
    }

    private Run start(String calls) {
        return new Run(bookies, ensemble, write, ack).after(calls);
    }

    private String name(String text) {
        return text + " with " + bookies + ", " + ensemble + ", " + write + ", " + ack;
    }

    private void ensemblesAndWriteSets() {
        for (int first = 0; first < bookies; first++) {
            ensembleFrom(first, -1);
            for (int down = 0; down < bookies; down++) {
                ensembleFrom(first, down);
            }
        }
    }

    private void ensembleFrom(int first, int down) {
        Run run = start("own(0)");
        if (down >= 0) {
            run.after("power(" + down + ", false)");
        }
        List<Integer> row = new ArrayList<>();
        for (int k = first; row.size() < ensemble && k < first + bookies; k++) {
            if (k % bookies != down) {
                row.add(k % bookies);
            }
        }
        String name = name("7 the first N bookies that are up from " + first + " on but " + down);
        if (row.size() < ensemble) {
            due(name, run, "open(0, " + first + ")", "IOOBE");
            return;
        }
        due(name, run, "open(0, " + first + ")", 0);
        for (int i = 0; i < 4; i++) {
            due(name, run, "ledger(0, " + (2 + i) + ")", i < ensemble ? row.get(i) : -1);
        }
        writeSets(name("the places (e + i) % N from " + first + " on but " + down), run, row);
    }

    private void writeSets(String name, Run run, List<Integer> row) {
        for (int e = 0; e < ENTRIES; e++) {
            run.after("publish(0, 0, " + (e + 1) + ", 1)");
        }
        for (int k : row) {
            int count = 0;
            for (int e = 0; e < ENTRIES; e++) {
                count += isIn(row, e, k) ? 1 : 0;
            }
            due(name, run, "add(0, " + k + ")", count);
            for (int e = 0; e < ENTRIES; e++) {
                due(name, run, "entry(" + k + ", " + e + ")", isIn(row, e, k) ? 100 + e + 1 : 0);
            }
        }
    }

    private boolean isIn(List<Integer> row, int e, int k) {
        for (int i = 0; i < write; i++) {
            if (row.get((e + i) % ensemble) == k) {
                return true;
            }
        }
        return false;
    }

    private void counts() {
        for (int places = 0; places < 1 << ensemble; places++) {
            repliesThatAreEnough(places);
        }
        for (int e : new int[] {0, 3, ENTRIES - 1}) {
            toldByEnough(e);
            for (int has = 0; has <= write; has++) {
                safeOnEnough(e, has);
            }
        }
    }

    private boolean areEnough(int places) {
        for (int place = 0; place < ensemble; place++) {
            int replied = 0;
            for (int i = 0; i < write; i++) {
                replied += places >> (place + i) % ensemble & 1;
            }
            if (replied < write - ack + 1) {
                return false;
            }
        }
        return true;
    }

    /** The ensemble begins at bookie 2, so that places and bookies are not the same. */
    private int bookieAt(int place) {
        return (2 + place) % bookies;
    }

    private void repliesThatAreEnough(int places) {
        Run run = start("own(0); open(0, 2); own(1)");
        for (int place = 0; place < ensemble; place++) {
            if ((places >> place & 1) == 1) {
                run.after("fence(1, " + bookieAt(place) + ")");
            }
        }
        String name = name("replies of the places " + Integer.toBinaryString(places));
        due(name, run, "add(1, 2)", areEnough(places) ? 0 : "ISE");
        due(name, run, "close(1)", areEnough(places) ? -1 : "ISE");
        due(name, run, "ledger(0, 0)", areEnough(places) ? 2 : 1);
    }

    /** All entries before e are told by all. */
    private Run confirmedBefore(int e) {
        Run run = start("own(0); open(0, 2)");
        for (int before = 0; before < e; before++) {
            run.after("publish(0, 0, " + (before + 1) + ", 1)");
        }
        for (int place = 0; place < ensemble; place++) {
            run.after("add(0, " + bookieAt(place) + "); sync(" + bookieAt(place) + ")");
        }
        return run.after("publish(0, 0, " + (e + 1) + ", 1)");
    }

    private void toldByEnough(int e) {
        Run run = confirmedBefore(e);
        String name = name("entry " + e + " is told by A or more");
        due(name, run, "broker(0, 2)", e);
        for (int i = 0; i < write; i++) {
            int k = bookieAt((e + i) % ensemble);
            due(name, run, "close(0)", i < ack ? "ISE" : e);
            if (i >= ack) {
                return;
            }
            due(name, run, "add(0, " + k + ")", 1);
            due(name, run, "broker(0, 2)", e);
            due(name, run, "sync(" + k + ")", 1);
            due(name, run, "broker(0, 2)", i + 1 >= ack ? e + 1 : e);
            due(name, run, "heard(0)", i + 1 >= ack ? e + 1 : e);
        }
    }

    private void safeOnEnough(int e, int has) {
        Run run = confirmedBefore(e);
        for (int i = 0; i < has; i++) {
            run.after("add(0, " + bookieAt((e + i) % ensemble) + ")");
        }
        run.after("own(1)");
        for (int place = 0; place < ensemble; place++) {
            run.after("fence(1, " + bookieAt(place) + ")");
        }
        String name = name("entry " + e + " is on " + has);
        int found = has == 0 ? e : e + 1;
        due(name, run, "broker(1, 2)", found);
        for (int i = has; has > 0 && i < ack; i++) {
            due(name, run, "close(1)", "ISE");
            due(name, run, "add(1, " + bookieAt((e + i) % ensemble) + ")", 1);
        }
        due(name, run, "close(1)", found - 1);
        due(name, run, "ledger(0, 6)", found);
    }
}
