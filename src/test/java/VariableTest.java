/** Promises 12 and 13, and 1, 3 and 2, 15: variables are read and set. */
public final class VariableTest {
    public static void main(String[] args) {
        wrongArguments();
        assigned();
        refused();
        nothingChangedWhenRefused();
        inTheirOrder();
        values();
        tooLong();
        Check.end();
    }

    private static void wrongArguments() {
        FabLink link = new FabLink();
        for (int v : new int[] {-1, 6, Integer.MIN_VALUE, Integer.MAX_VALUE}) {
            Check.refuses("format " + v, IndexOutOfBoundsException.class, () -> link.format(v));
            Check.refuses("octet " + v, IndexOutOfBoundsException.class, () -> link.octet(v, 0));
        }
        for (int k : new int[] {-1, 1, 7, 8, Integer.MIN_VALUE, Integer.MAX_VALUE}) {
            Check.refuses("octet 0, " + k, IndexOutOfBoundsException.class, () -> link.octet(0, k));
            Check.refuses("octet 5, " + k, IndexOutOfBoundsException.class, () -> link.octet(5, k));
        }
    }

    private static void assigned() {
        Host host = Host.online(2);
        int[] eight = Items.item(32, 1, 2, 3, 4, 5, 6, 7, 255);
        host.expect("four", 2, 15, Items.list(
                Items.pair(2, eight), Items.pair(3, Items.item(Items.TEXT)),
                Items.pair(4, Items.wide(3, 26, 200, 201)), Items.pair(5, Items.n(9))), 16, Items.b(0));
        FabLink link = host.link;
        Check.same("format 2", link.format(2), 32);
        Check.same("octet 2, 0", link.octet(2, 0), 1);
        Check.same("octet 2, 7", link.octet(2, 7), 255);
        Check.refuses("octet 2, 8", IndexOutOfBoundsException.class, () -> link.octet(2, 8));
        Check.same("format 3", link.format(3), 16);
        Check.refuses("octet 3, 0", IndexOutOfBoundsException.class, () -> link.octet(3, 0));
        Check.same("format 4", link.format(4), 26);
        Check.same("octet 4, 1", link.octet(4, 1), 201);
        Check.refuses("octet 4, 2", IndexOutOfBoundsException.class, () -> link.octet(4, 2));
        host.expect("read, with sizes of one byte", 1, 3, Items.numbers(4, 3, 2, 5), 4,
                Items.list(Items.item(26, 200, 201), Items.item(Items.TEXT), eight, Items.n(9)));
        host.expect("a shorter one", 2, 15, Items.list(Items.pair(2, Items.b(7))), 16, Items.b(0));
        Check.same("format 2", link.format(2), 8);
        Check.same("octet 2, 0", link.octet(2, 0), 7);
        Check.refuses("octet 2, 1", IndexOutOfBoundsException.class, () -> link.octet(2, 1));
    }

    private static void refused() {
        int[] good = Items.pair(2, Items.n(1));
        int[] list = Items.pair(2, Items.list());
        int[] nine = Items.pair(5, Items.item(Items.TEXT, Items.zeros(9)));
        for (int v : new int[] {0, 1, 6, 255}) {
            int[] other = Items.pair(v, Items.n(1));
            refused("variable " + v, 1, other);
            refused("the last one", 1, good, other);
            refused("behind a list", 1, list, other);
            refused("behind a long one", 1, nine, other);
            refused("before a list", 1, other, list);
        }
        refused("a list", 3, list);
        refused("a list behind", 3, good, list);
        refused("a list before", 3, list, good);
        refused("a list that is not empty", 3, Items.pair(3, Items.numbers(1, 2)), good);
        refused("nine bytes", 3, nine);
        refused("sixteen bytes", 3, Items.pair(4, Items.item(32, Items.zeros(16))));
    }

    private static void refused(String what, int due, int[]... pairs) {
        Host.online(3).expect(what, 2, 15, Items.list(pairs), 16, Items.b(due));
    }

    private static void nothingChangedWhenRefused() {
        Host host = Host.online(3);
        int[] good = Items.pair(2, Items.b(77));
        host.ask(2, 15, Items.list(good, Items.pair(1, Items.n(1))));
        host.ask(2, 15, Items.list(good, Items.pair(3, Items.list())));
        Check.same("format", host.link.format(2), 41);
        Check.same("octet", host.link.octet(2, 0), 0);
        Check.same("work", host.link.look(3), 0);
    }

    private static void inTheirOrder() {
        Host host = Host.online(3);
        host.ask(2, 15, Items.list(Items.pair(2, Items.n(1)), Items.pair(3, Items.n(2)), Items.pair(2, Items.b(3))));
        Check.same("the last one", host.link.octet(2, 0), 3);
        Check.same("its format", host.link.format(2), 8);
        Check.same("the other", host.link.octet(3, 0), 2);
    }

    private static void values() {
        Host host = Host.online(3);
        host.command("START", 0);
        host.expect("all", 1, 3, Items.numbers(0, 1, 2, 3, 4, 5), 4, Items.numbers(3, 1, 0, 0, 0, 0));
        host.expect("none", 1, 3, Items.list(), 4, Items.list());
        host.expect("not there", 1, 3, Items.numbers(6, 1, 255, 1), 4,
                Items.list(Items.list(), Items.n(1), Items.list(), Items.n(1)));
        Check.same("variable 1", host.link.octet(1, 0), 1);
    }

    /** 11 times 10 bytes, and the list's 2, are 112; a text of 6 bytes makes just 120. */
    private static void tooLong() {
        int[] eight = Items.item(Items.TEXT, 1, 2, 3, 4, 5, 6, 7, 8);
        int[] six = Items.item(Items.TEXT, 1, 2, 3, 4, 5, 6);
        int[] eleven = {2, 2, 2, 2, 2, 2, 2, 2, 2, 2, 2};
        int[][] items = new int[12][];
        java.util.Arrays.fill(items, eight);
        items[11] = six;
        Host host = Host.online(3);
        host.ask(2, 15, Items.list(Items.pair(2, eight), Items.pair(3, six)));
        host.expect("120 bytes", 1, 3, Items.numbers(Items.join(eleven, Items.row(3))), 4, Items.list(items));
        host.ask(2, 15, Items.list(Items.pair(3, Items.item(Items.TEXT, 1, 2, 3, 4, 5, 6, 7))));
        host.expect("121 bytes", 1, 3, Items.numbers(Items.join(eleven, Items.row(3))), 0);
        int[] most = new int[39];
        java.util.Arrays.fill(most, 2);
        Host other = Host.online(3);
        other.ask(2, 15, Items.list(Items.pair(2, eight)));
        other.expect("39 of them", 1, 3, Items.numbers(most), 0);
        Check.messages("no reply wanted", other.tell(1, 3, Items.numbers(most)));
        Check.same("none lost", other.link.look(7), 0);
        other.expect("the next one is whole", 1, 3, Items.numbers(2), 4, Items.list(eight));
    }
}
