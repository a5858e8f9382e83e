import java.util.Arrays;

/** Promises 12 and 13, and 1, 3 and 2, 15: variables are read and set. */
public final class VariableTest {
    public static void main(String[] args) {
        noSuchFormat();
        noSuchOctet();
        atFirst();
        controlAndWork();
        values();
        notThere();
        replyOfAHundredAndTwenty();
        assigned();
        firstAndLast();
        itemsOfEightBytes();
        itemsThatAreLists();
        numberBeforeItem();
        nothingIsChanged();
        inTheirOrder();
        Check.end();
    }

    private static void noSuchFormat() {
        Check.about("The format of a variable (0 .. 5). IndexOutOfBoundsException: there is none.");
        FabLink link = new FabLink();
        for (int v : new int[] {-1, 6, 7, 255, Integer.MIN_VALUE, Integer.MAX_VALUE}) {
            Check.refuses("format " + v, IndexOutOfBoundsException.class, () -> link.format(v));
        }
        Check.same("the first", link.format(0), 41);
        Check.same("the last", link.format(5), 41);
    }

    private static void noSuchOctet() {
        Check.about("Byte k of a variable (from 0). IndexOutOfBoundsException: there is no such variable or byte.");
        FabLink link = new FabLink();
        for (int v : new int[] {-1, 6, 7, 255, Integer.MIN_VALUE, Integer.MAX_VALUE}) {
            Check.refuses("octet " + v, IndexOutOfBoundsException.class, () -> link.octet(v, 0));
            Check.refuses("octet " + v + ", -1", IndexOutOfBoundsException.class, () -> link.octet(v, -1));
        }
        for (int v = 0; v <= 5; v++) {
            int variable = v;
            Check.same("octet " + v + ", 0", link.octet(v, 0), 0);
            for (int k : new int[] {-1, 1, 7, 8, 9, Integer.MIN_VALUE, Integer.MAX_VALUE}) {
                Check.refuses("octet " + v + ", " + k, IndexOutOfBoundsException.class, () -> link.octet(variable, k));
            }
        }
        Host host = Host.online(3);
        host.tell(2, 15, Items.list(Items.pair(2, Items.item(16, 9, 8, 7, 6, 5, 4, 3, 2)), Items.pair(5, Items.item(16))));
        Check.same("of 8 the first", host.link.octet(2, 0), 9);
        Check.same("of 8 the last", host.link.octet(2, 7), 2);
        Check.refuses("of 8 the ninth", IndexOutOfBoundsException.class, () -> host.link.octet(2, 8));
        Check.refuses("of 8 before the first", IndexOutOfBoundsException.class, () -> host.link.octet(2, -1));
        Check.refuses("of none the first", IndexOutOfBoundsException.class, () -> host.link.octet(5, 0));
        Check.refuses("of none before the first", IndexOutOfBoundsException.class, () -> host.link.octet(5, -1));
    }

    private static void atFirst() {
        Check.about("VARIABLES 0 .. 5 are items; 0 is the control (a number), 1 is the work (a number); "
                + "the others at first numbers 0.");
        Host host = Host.online(3);
        host.expect("all", 1, 3, Items.numbers(0, 1, 2, 3, 4, 5), 4, Items.numbers(3, 0, 0, 0, 0, 0));
        for (int v = 0; v <= 5; v++) {
            Check.same("format " + v, host.link.format(v), 41);
            Check.same("octet " + v, host.link.octet(v, 0), v == 0 ? 3 : 0);
        }
    }

    private static void controlAndWork() {
        Check.about("0 is the control (a number), 1 is the work (a number)");
        Host host = Host.online(3);
        host.command("START", 0);
        host.expect("running", 1, 3, Items.numbers(0, 1), 4, Items.numbers(3, 1));
        host.command("PAUSE", 0);
        host.expect("paused", 1, 3, Items.numbers(1), 4, Items.numbers(2));
        host.link.control(2);
        host.expect("local", 1, 3, Items.numbers(0), 4, Items.numbers(2));
        Check.same("octet 0", host.link.octet(0, 0), 2);
        Check.same("octet 1", host.link.octet(1, 0), 2);
    }

    private static void values() {
        Check.about("1, 3 with [N*]: reply the list of the values of these variables");
        Host host = Host.online(3);
        host.expect("none", 1, 3, Items.list(), 4, Items.list());
        host.expect("the first", 1, 3, Items.numbers(0), 4, Items.numbers(3));
        host.expect("the last", 1, 3, Items.numbers(5), 4, Items.numbers(0));
        host.expect("as they are asked for", 1, 3, Items.numbers(5, 0, 0, 1), 4, Items.numbers(0, 3, 3, 0));
        int[] most = new int[39];
        int[] values = new int[39];
        Arrays.fill(values, 3);
        host.expect("as many as a body holds", 1, 3, Items.numbers(most), 4, Items.numbers(values));
    }

    private static void notThere() {
        Check.about("[] for one that is not there");
        Host host = Host.online(3);
        for (int v : new int[] {6, 7, 128, 255}) {
            host.expect("variable " + v, 1, 3, Items.numbers(v), 4, Items.list(Items.list()));
        }
        host.expect("among others", 1, 3, Items.numbers(6, 5, 255, 0), 4,
                Items.list(Items.list(), Items.n(0), Items.list(), Items.n(3)));
    }

    /** 11 times 10 bytes, and the list's 2, are 112; a text of 6 bytes makes just 120. */
    private static void replyOfAHundredAndTwenty() {
        Check.about("A reply whose body would have more than 120 bytes has function 0 and no body instead.");
        int[] eight = Items.item(Items.TEXT, 1, 2, 3, 4, 5, 6, 7, 8);
        int[] asked = Items.numbers(2, 2, 2, 2, 2, 2, 2, 2, 2, 2, 2, 3);
        for (int length = 119; length <= 122; length++) {
            int[] rest = Items.item(Items.TEXT, Items.zeros(length - 114));
            int[][] items = new int[12][];
            Arrays.fill(items, eight);
            items[11] = rest;
            Host host = Host.online(3);
            host.tell(2, 15, Items.list(Items.pair(2, eight), Items.pair(3, rest)));
            Check.same("bytes", Items.list(items).length, length);
            if (length <= 120) {
                host.expect(length + " bytes", 1, 3, asked, 4, Items.list(items));
            } else {
                host.expect(length + " bytes", 1, 3, asked, 0);
            }
        }
        Host host = Host.online(3);
        int[] most = new int[39];
        Arrays.fill(most, 2);
        host.tell(2, 15, Items.list(Items.pair(2, eight)));
        host.expect("39 of them", 1, 3, Items.numbers(most), 0);
        Check.messages("no reply wanted", host.tell(1, 3, Items.numbers(most)));
        Check.same("none lost", host.link.look(7), 0);
        host.expect("the next one is whole", 1, 3, Items.numbers(2), 4, Items.list(eight));
    }

    private static void assigned() {
        Check.about("2, 15 with [[N, item]*]: each variable of the number gets the item as its value");
        Host host = Host.online(2);
        int[] eight = Items.item(32, 1, 2, 3, 4, 5, 6, 7, 255);
        host.expect("four", 2, 15, Items.list(
                Items.pair(2, eight), Items.pair(3, Items.item(Items.TEXT)),
                Items.pair(4, Items.wide(3, 26, 200, 201)), Items.pair(5, Items.n(9))), 16, Items.b(0));
        FabLink link = host.link;
        Check.same("format 2", link.format(2), 32);
        Check.same("octet 2, 0", link.octet(2, 0), 1);
        Check.same("octet 2, 7", link.octet(2, 7), 255);
        Check.same("format 3", link.format(3), 16);
        Check.same("format 4", link.format(4), 26);
        Check.same("octet 4, 1", link.octet(4, 1), 201);
        Check.refuses("octet 4, 2", IndexOutOfBoundsException.class, () -> link.octet(4, 2));
        host.expect("read, with sizes of one byte", 1, 3, Items.numbers(4, 3, 2, 5), 4,
                Items.list(Items.item(26, 200, 201), Items.item(Items.TEXT), eight, Items.n(9)));
        host.expect("a shorter one", 2, 15, Items.list(Items.pair(2, Items.b(7))), 16, Items.b(0));
        Check.same("format 2", link.format(2), 8);
        Check.same("octet 2, 0", link.octet(2, 0), 7);
        Check.refuses("octet 2, 1", IndexOutOfBoundsException.class, () -> link.octet(2, 1));
        int[] before = Shown.kept(link);
        host.expect("none", 2, 15, Items.list(), 16, Items.b(0));
        Check.same("none: nothing is changed", Shown.kept(link), before);
    }

    private static void assign(String what, int due, int[]... pairs) {
        Host.online(3).expect(what, 2, 15, Items.list(pairs), 16, Items.b(due));
    }

    private static void firstAndLast() {
        Check.about("If one is not 2 .. 5: B 1");
        for (int v : new int[] {0, 1, 2, 3, 4, 5, 6, 7, 128, 255}) {
            boolean may = v >= 2 && v <= 5;
            Host host = Host.online(3);
            int[] before = Shown.kept(host.link);
            host.expect("variable " + v, 2, 15, Items.list(Items.pair(v, Items.n(7))), 16, Items.b(may ? 0 : 1));
            if (may) {
                Check.same("octet " + v, host.link.octet(v, 0), 7);
            } else {
                Check.same("nothing is changed", Shown.kept(host.link), before);
            }
        }
    }

    private static void itemsOfEightBytes() {
        Check.about("or has more than 8 bytes: B 3");
        for (int size : new int[] {0, 1, 7, 8, 9, 10, 100}) {
            Host host = Host.online(3);
            int[] before = Shown.kept(host.link);
            int[] text = Items.item(Items.TEXT, Items.zeros(size));
            host.expect(size + " bytes", 2, 15, Items.list(Items.pair(5, text)), 16, Items.b(size <= 8 ? 0 : 3));
            if (size <= 8) {
                Check.same("its format", host.link.format(5), 16);
                Check.refuses("behind it", IndexOutOfBoundsException.class, () -> host.link.octet(5, size));
            } else {
                Check.same("nothing is changed", Shown.kept(host.link), before);
            }
        }
        assign("8 bytes of 8", 0, Items.pair(2, Items.item(32, Items.zeros(8))));
        assign("16 bytes of 8", 3, Items.pair(2, Items.item(32, Items.zeros(16))));
        assign("12 bytes of 4", 3, Items.pair(2, Items.item(44, Items.zeros(12))));
    }

    private static void itemsThatAreLists() {
        Check.about("or else if one item is a list ... B 3");
        int[] good = Items.pair(2, Items.n(1));
        assign("an empty list", 3, Items.pair(2, Items.list()));
        assign("a list of one", 3, Items.pair(2, Items.list(Items.n(1))));
        assign("behind a good one", 3, good, Items.pair(5, Items.list()));
        assign("before a good one", 3, Items.pair(3, Items.numbers(1, 2)), good);
    }

    private static void numberBeforeItem() {
        Check.about("If one is not 2 .. 5: B 1; or else if one item is a list or has more than 8 bytes: B 3");
        int[] list = Items.pair(2, Items.list());
        int[] nine = Items.pair(5, Items.item(Items.TEXT, Items.zeros(9)));
        for (int v : new int[] {1, 6}) {
            int[] other = Items.pair(v, Items.n(1));
            assign("behind a list", 1, list, other);
            assign("behind a long one", 1, nine, other);
            assign("before a list", 1, other, list);
            assign("both in one", 1, Items.pair(v, Items.list()));
        }
    }

    private static void nothingIsChanged() {
        Check.about("B 1; or else ... B 3; then nothing is changed");
        Host host = Host.online(3);
        int[] good = Items.pair(2, Items.b(77));
        int[] before = Shown.kept(host.link);
        host.expect("B 1", 2, 15, Items.list(good, Items.pair(1, Items.n(1)), good), 16, Items.b(1));
        host.expect("B 3", 2, 15, Items.list(good, Items.pair(3, Items.list()), good), 16, Items.b(3));
        host.expect("B 3", 2, 15, Items.list(good, Items.pair(3, Items.item(16, Items.zeros(9)))), 16, Items.b(3));
        Check.same("nothing", Shown.kept(host.link), before);
    }

    private static void inTheirOrder() {
        Check.about("in their order; reply B 0");
        Host host = Host.online(3);
        host.expect("one twice", 2, 15, Items.list(
                Items.pair(2, Items.n(1)), Items.pair(3, Items.n(2)), Items.pair(2, Items.b(3))), 16, Items.b(0));
        Check.same("the last one", host.link.octet(2, 0), 3);
        Check.same("its format", host.link.format(2), 8);
        Check.same("the other", host.link.octet(3, 0), 2);
    }
}
