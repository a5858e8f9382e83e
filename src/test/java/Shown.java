import java.util.ArrayList;
import java.util.List;

/** What the calls show of an object, as one row, so that before and after can be compared. */
final class Shown {
    private static final int LAST_BYTES = 4;

    private final List<Integer> row = new ArrayList<>();

    private Shown() {
    }

    /** Everything: some fifty calls. */
    static int[] all(FabLink link) {
        Shown shown = new Shown();
        for (int which = 0; which <= 7; which++) {
            shown.row.add(link.look(which));
        }
        shown.addSaid(link);
        shown.addTables(link);
        return shown.bytes();
    }

    /** What a request may change: states of speaking, control and work, reports, events, variables. */
    static int[] kept(FabLink link) {
        Shown shown = new Shown();
        for (int which = 1; which <= 4; which++) {
            shown.row.add(link.look(which));
        }
        shown.addTables(link);
        return shown.bytes();
    }

    private void addSaid(FabLink link) {
        int said = link.said();
        row.add(said);
        for (int i = Math.max(0, said - LAST_BYTES); i < said; i++) {
            row.add(link.saidAt(i));
        }
    }

    private void addTables(FabLink link) {
        for (int r = 1; r <= 4; r++) {
            row.add(link.report(r));
        }
        for (int e = 1; e <= 5; e++) {
            row.add(link.event(e));
        }
        for (int v = 0; v <= 5; v++) {
            row.add(link.format(v));
            addOctets(link, v);
        }
    }

    /** The bytes of a variable, and -1 behind them. */
    private void addOctets(FabLink link, int v) {
        int octet = 0;
        for (int k = 0; k <= 8 && octet >= 0; k++) {
            octet = octet(link, v, k);
            row.add(octet);
        }
    }

    private static int octet(FabLink link, int v, int k) {
        try {
            return link.octet(v, k);
        } catch (IndexOutOfBoundsException e) {
            return -1;
        }
    }

    private int[] bytes() {
        return row.stream().mapToInt(Integer::intValue).toArray();
    }
}
