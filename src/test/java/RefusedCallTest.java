import java.util.ArrayList;
import java.util.List;
import java.util.function.Consumer;

/**
 * Each refused call in many states: the exception that the document names, all that the calls show
 * as it was before, and from there on the same as an object that was never asked.
 */
public final class RefusedCallTest {
    private static final int[] ENDS = {Integer.MIN_VALUE, Integer.MAX_VALUE};

    private enum State {
        NEW, READING_NO_BYTE, READING_THE_FIRST, READING_THE_LAST, OFFERING, WAITING, TALKING, WORKING, FULL,
        DISABLED, OFF_BY_THE_HOST, LONG_VARIABLE, MANY_SAID
    }

    private static final class Refusal {
        final String name;
        final Class<? extends Exception> due;
        final Consumer<FabLink> call;

        Refusal(String name, Class<? extends Exception> due, Consumer<FabLink> call) {
            this.name = name;
            this.due = due;
            this.call = call;
        }
    }

    private final List<Refusal> refusals = new ArrayList<>();

    public static void main(String[] args) {
        for (State state : State.values()) {
            RefusedCallTest test = new RefusedCallTest();
            test.collect(reach(state).link);
            Check.about("each refused call, " + state);
            for (Refusal refusal : test.refusals) {
                tryIn(state, refusal);
            }
        }
        Check.end();
    }

    private static void tryIn(State state, Refusal refusal) {
        String what = state + ", " + refusal.name;
        Host asked = reach(state);
        int[] before = Shown.all(asked.link);
        Check.refuses(what, refusal.due, () -> refusal.call.accept(asked.link));
        Check.same(what + ": all is as before", Shown.all(asked.link), before);
        for (boolean byTime : new boolean[] {true, false}) {
            Host one = reach(state);
            Host twin = reach(state);
            Check.refuses(what, refusal.due, () -> refusal.call.accept(one.link));
            Check.same(what + ": goes on as before", goOn(one, state, byTime), goOn(twin, state, byTime));
        }
    }

    /** What goes on by time, unit by unit, or by the bytes that are due next. */
    private static int[] goOn(Host host, State state, boolean byTime) {
        int[] answers = new int[6];
        for (int i = 0; i < answers.length; i++) {
            answers[i] = byTime ? host.link.tick(1) : host.link.hear(nextByte(host, state, i));
        }
        return Items.join(answers, Shown.all(host.link));
    }

    private static int nextByte(Host host, State state, int i) {
        if (state == State.READING_THE_LAST && i == 0) {
            return greeting(host)[12];
        }
        int line = host.link.look(0);
        if (line == Host.READING) {
            return 10;
        }
        return line == Host.OFFERING ? 4 : line == Host.WAITING ? 6 : 5;
    }

    private static int[] greeting(Host host) {
        return Host.block(host.message(129, 13, Items.row(1, 2, 3, 4)));
    }

    /** Where there is a limit of time, a unit before it. */
    private static Host reach(State state) {
        Host host = new Host();
        switch (state) {
            case READING_NO_BYTE:
                host.link.hear(5);
                host.link.tick(4);
                return host;
            case READING_THE_FIRST:
                host.link.hear(5);
                host.link.hear(10);
                host.link.tick(1);
                return host;
            case READING_THE_LAST:
                return reachTheLast();
            case OFFERING:
                host.fill(2);
                host.link.tick(19);
                return host;
            case WAITING:
                host.fill(2);
                host.link.tick(15);
                host.link.hear(4);
                host.link.tick(4);
                return host;
            case TALKING:
                host.openTalks(2);
                host.link.tick(44);
                return host;
            case FULL:
                host.fill(9);
                return host;
            case MANY_SAID:
                host.fill(8);
                for (int i = 0; i < 25; i++) {
                    host.link.hear(4);
                    host.link.hear(21);
                }
                return host;
            default:
                return reachOnline(state);
        }
    }

    private static Host reachTheLast() {
        Host host = Host.enabled();
        host.link.hear(5);
        int[] block = greeting(host);
        for (int i = 0; i + 1 < block.length; i++) {
            host.link.hear(block[i]);
        }
        return host;
    }

    private static Host reachOnline(State state) {
        if (state == State.NEW) {
            return new Host();
        }
        Host host = state == State.WORKING ? Host.reporting() : Host.online(2);
        if (state == State.WORKING) {
            host.tell(2, 41, Items.list(Items.text("START"), Items.list()));
            host.link.tick(29);
        } else if (state == State.DISABLED) {
            host.link.enable(false);
        } else if (state == State.OFF_BY_THE_HOST) {
            host.tell(1, 15);
        } else {
            host.tell(2, 15, Items.list(
                    Items.pair(2, Items.item(16, 1, 2, 3, 4, 5, 6, 7, 8)), Items.pair(5, Items.item(16))));
        }
        return host;
    }

    private void add(String name, Class<? extends Exception> due, Consumer<FabLink> call) {
        refusals.add(new Refusal(name, due, call));
    }

    /** The object is one in the state that is meant: what is refused hangs on it. */
    private void collect(FabLink link) {
        for (int b : Items.join(Items.row(-1, 256), ENDS)) {
            add("hear " + b, IllegalArgumentException.class, x -> x.hear(b));
        }
        for (int units : Items.join(Items.row(-1, 0, 61), ENDS)) {
            add("tick " + units, IllegalArgumentException.class, x -> x.tick(units));
        }
        boolean enabled = link.look(1) != 0;
        add("enable " + enabled, IllegalStateException.class, x -> x.enable(enabled));
        for (int c : Items.join(Items.row(-1, 1, 4), ENDS)) {
            add("control " + c, IllegalArgumentException.class, x -> x.control(c));
        }
        for (int which : Items.join(Items.row(-1, 8), ENDS)) {
            add("look " + which, IllegalArgumentException.class, x -> x.look(which));
        }
        collectSaid(link.said());
        collectTables();
        for (int v = 0; v <= 5; v++) {
            collectOctets(v, sizeOf(link, v));
        }
    }

    private void collectSaid(int said) {
        for (int i : Items.join(Items.row(-1, said, said + 1), ENDS)) {
            add("saidAt " + i, IndexOutOfBoundsException.class, x -> x.saidAt(i));
        }
        if (said > 501) {
            add("saidAt with 501 behind it", IndexOutOfBoundsException.class, x -> x.saidAt(said - 502));
            add("saidAt the first", IndexOutOfBoundsException.class, x -> x.saidAt(0));
        }
    }

    private void collectTables() {
        for (int r : Items.join(Items.row(-1, 0, 5), ENDS)) {
            add("report " + r, IndexOutOfBoundsException.class, x -> x.report(r));
        }
        for (int e : Items.join(Items.row(-1, 0, 6), ENDS)) {
            add("event " + e, IndexOutOfBoundsException.class, x -> x.event(e));
        }
        for (int v : Items.join(Items.row(-1, 6), ENDS)) {
            add("format " + v, IndexOutOfBoundsException.class, x -> x.format(v));
            add("octet " + v + ", 0", IndexOutOfBoundsException.class, x -> x.octet(v, 0));
        }
    }

    private void collectOctets(int v, int size) {
        for (int k : Items.join(Items.row(-1, size), ENDS)) {
            add("octet " + v + ", " + k, IndexOutOfBoundsException.class, x -> x.octet(v, k));
        }
    }

    private static int sizeOf(FabLink link, int v) {
        for (int k = 0; k < 9; k++) {
            try {
                link.octet(v, k);
            } catch (IndexOutOfBoundsException e) {
                return k;
            }
        }
        return 9;
    }
}
