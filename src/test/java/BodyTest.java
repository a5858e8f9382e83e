import java.util.Arrays;

/** Promise 2: bodies and items that are as they must be, and those that are not (9, 7). */
public final class BodyTest {
    private static final int[] UNKNOWN = Items.list(Items.b(1), Items.list());

    public static void main(String[] args) {
        nothingOrOneItem();
        noBody();
        oneItemAndNothingBehind();
        greatestBody();
        bytesOfASize();
        sizesHighByteFirst();
        itemsOfAList();
        bytesOfAnItem();
        formats();
        multiples();
        itemInSixOthers();
        numbers();
        asBytes();
        anyNumberOfSuch();
        sizesThatAreSaid();
        shapesOfRead();
        shapesOfAssign();
        shapesOfTables();
        shapesOfSwitch();
        shapesOfCommand();
        refusedBodiesChangeNothing();
        Check.end();
    }

    private static void wrong(String what, int stream, int function, int[]... body) {
        Host.online(3).expectComplaint(what, 7, 2, stream, function, body);
    }

    private static void right(String what, int stream, int function, int[] body, int... replyBody) {
        Host.online(3).expect(what, stream, function, body, function + 1, replyBody);
    }

    /** As the item of a variable it is taken: the reply is B 0, or B 3 for one that is well made but too long. */
    private static void item(String what, int[] item, int due) {
        right(what, 2, 15, Items.list(Items.pair(2, item)), Items.b(due));
    }

    private static void noItem(String what, int... bytes) {
        wrong(what, 2, 15, Items.list(Items.pair(2, bytes)));
    }

    private static void command(String what, int[] text) {
        right(what, 2, 41, Items.list(text, Items.list()), UNKNOWN);
    }

    private static void noCommand(String what, int[] text) {
        wrong(what, 2, 41, Items.list(text, Items.list()));
    }

    private static void nothingOrOneItem() {
        Check.about("is its BODY: nothing, or one ITEM: a byte 4 * format + k");
        right("nothing", 1, 1, Items.row(), Items.list(Items.text("FL"), Items.text("1")));
        right("one item", 1, 3, Items.list(), Items.list());
        wrong("an item for nothing", 1, 1, Items.list());
        wrong("nothing for an item", 1, 3);
        wrong("two items", 1, 3, Items.list(), Items.list());
    }

    private static void noBody() {
        Check.about("Otherwise: if its body is not as it must be (an item, and nothing behind it; or none): 9, 7");
        for (int[] kind : new int[][] {{1, 1}, {1, 15}, {1, 17}}) {
            wrong("one byte", kind[0], kind[1], Items.row(0));
            wrong("an empty list", kind[0], kind[1], Items.list());
            wrong("an item", kind[0], kind[1], Items.b(0));
        }
        for (int[] kind : new int[][] {{1, 3}, {2, 15}, {2, 33}, {2, 35}, {2, 37}, {2, 41}}) {
            wrong("no body", kind[0], kind[1]);
        }
        Host host = Host.online(3);
        host.expectComplaint("1, 15 with a body", 7, 2, 1, 15, Items.b(0));
        Check.same("control stays", host.link.look(2), 3);
        host.link.control(0);
        host.expectComplaint("1, 17 with a body, offline", 7, 3, 1, 17, Items.b(0));
    }

    private static void oneItemAndNothingBehind() {
        Check.about("an item, and nothing behind it");
        right("nothing behind it", 1, 3, Items.list(), Items.list());
        for (int b : new int[] {0, 1, 255}) {
            wrong("one byte behind it", 1, 3, Items.list(), Items.row(b));
        }
        wrong("an item behind it", 1, 3, Items.list(), Items.list());
        wrong("an item behind numbers", 1, 3, Items.numbers(1, 2), Items.n(3));
        wrong("behind a table", 2, 33, Items.table(), Items.row(0));
        wrong("behind a command", 2, 41, Items.list(Items.text("START"), Items.list()), Items.list());
    }

    /**
     * A body of more than 120 bytes can't be heard: its block would have a length over 130, and that
     * is none (ReadingTest.lengths).
     */
    private static void greatestBody() {
        Check.about("The rest of a message, at most 120 bytes, is its BODY");
        for (int length : new int[] {119, 120}) {
            int[] body = Items.list(Items.text("X".repeat(length - 6)), Items.list());
            Check.same("bytes", body.length, length);
            right(length + " bytes", 2, 41, body, UNKNOWN);
        }
        wrong("a text that takes a byte of what is behind it", 2, 41,
                Items.join(Items.row(1, 2, 65, 115), Items.zeros(114), Items.list()));
        wrong("a text that would go on behind the 120", 2, 41, Items.join(Items.row(1, 2, 65, 117), Items.zeros(116)));
        int[] full = Items.join(Items.row(1, 2, 65, 116), Items.zeros(116));
        Check.same("bytes", full.length, 120);
        wrong("an item that would begin behind the 120", 2, 41, full);
        for (int format : new int[] {1, 2, 3, 65, 67, 0}) {
            wrong("an item whose size would stand behind the 120", 2, 41,
                    Items.join(Items.row(1, 2, 65, 115), Items.zeros(115), Items.row(format)));
        }
        int[][] empty = new int[57][];
        Arrays.fill(empty, Items.list());
        int[] crowded = Items.list(Items.item(Items.TEXT), Items.list(empty));
        Check.same("60 items", crowded.length, 120);
        right("60 items", 2, 41, crowded, UNKNOWN);
        wrong("60 items, and a list that wants one more", 2, 41,
                Items.join(Arrays.copyOf(crowded, 119), Items.row(1)));
    }

    private static void bytesOfASize() {
        Check.about("a byte 4 * format + k (k 1 .. 3), k bytes that are a size");
        for (int k = 1; k <= 3; k++) {
            right("a list, k " + k, 1, 3, Items.wideList(k, Items.wide(k, Items.NUMBER, 0)), 1, 1, 165, 1, 3);
            item("a text, k " + k, Items.wide(k, Items.TEXT, 'A', 'B'), 0);
            command("no bytes, k " + k, Items.wide(k, Items.TEXT));
        }
        wrong("a list, k 0", 1, 3, Items.row(0));
        wrong("a list, k 0, and a size", 1, 3, Items.row(0, 0));
        noItem("a number, k 0", 164);
        noItem("a number, k 0, and a size", 164, 1, 0);
        noItem("a text, k 0", 64);
        wrong("half a size", 1, 3, Items.row(2, 0));
        wrong("no size", 1, 3, Items.row(1));
        wrong("no size, k 2", 1, 3, Items.row(2));
        wrong("no size, k 3", 1, 3, Items.row(3));
        wrong("a third of a size", 1, 3, Items.row(3, 0));
        wrong("two thirds of a size", 1, 3, Items.row(3, 0, 0));
        right("a whole one", 1, 3, Items.row(3, 0, 0, 0), Items.list());
    }

    private static void sizesHighByteFirst() {
        Check.about("k bytes that are a size, high byte first");
        noItem("256", Items.join(Items.row(66, 1, 0), Items.zeros(8)));
        noItem("256, and a byte", Items.join(Items.row(66, 1, 0, 7)));
        noItem("65536", Items.join(Items.row(67, 1, 0, 0), Items.zeros(8)));
        noItem("256 in three", Items.join(Items.row(67, 0, 1, 0), Items.zeros(8)));
        noItem("16777215", Items.join(Items.row(67, 255, 255, 255), Items.zeros(8)));
        wrong("a list of 256", 1, 3, Items.row(2, 1, 0));
        wrong("a list of 65536", 1, 3, Items.row(3, 1, 0, 0));
        wrong("a list of 16777215", 1, 3, Items.join(Items.row(3, 255, 255, 255), Items.n(1)));
        wrong("a list of 256 for one of 1", 1, 3, Items.join(Items.row(2, 1, 0), Items.n(1)));
    }

    private static void itemsOfAList() {
        Check.about("and then: in a LIST (format 0), so many items");
        int[] two = Items.join(Items.n(0), Items.n(1));
        right("none", 1, 3, Items.list(), Items.list());
        right("two", 1, 3, Items.join(Items.row(1, 2), two), Items.numbers(3, 0));
        wrong("one more than there are", 1, 3, Items.join(Items.row(1, 3), two));
        wrong("one less than there are", 1, 3, Items.join(Items.row(1, 1), two));
        wrong("none, and there are two", 1, 3, Items.join(Items.row(1, 0), two));
        wrong("one, and there is none", 1, 3, Items.row(1, 1));
        wrong("255, and there are two", 1, 3, Items.join(Items.row(1, 255), two));
        wrong("the inner one takes what the outer one wants", 2, 41, Items.row(1, 2, 65, 0, 1, 1));
    }

    private static void bytesOfAnItem() {
        Check.about("in any other one so many bytes");
        right("all its bytes", 1, 3, Items.row(1, 1, 165, 1, 0), Items.numbers(3));
        wrong("one less than it says", 1, 3, Items.row(1, 1, 165, 1));
        wrong("nothing but its first byte", 1, 3, Items.row(1, 1, 165));
        noItem("a text with one byte less", 65, 3, 'A', 'B');
        noItem("a text with one byte more", 65, 1, 'A', 'B');
        noItem("a text of 255", Items.join(Items.row(65, 255), Items.zeros(50)));
    }

    private static void formats() {
        Check.about("Formats: 8 BINARY, 9 BOOLEAN, 16 TEXT, 25, 26, 28 whole numbers of 1, 2, 4 bytes, "
                + "41, 42, 44 such without a sign, 36, 32 of 4 and 8 bytes with a point.");
        boolean[] known = new boolean[64];
        for (int format : new int[] {0, 8, 9, 16, 25, 26, 28, 41, 42, 44, 36, 32}) {
            known[format] = true;
        }
        for (int format = 0; format < 64; format++) {
            if (known[format]) {
                item("format " + format, Items.item(format), format == 0 ? 3 : 0);
            } else {
                noItem("format " + format + ", empty", Items.item(format));
                noItem("format " + format, Items.item(format, Items.zeros(8)));
            }
        }
    }

    private static void multiples() {
        Check.about("So many bytes must be a multiple of those of one.");
        int[][] widths = {
            {8, 1}, {9, 1}, {16, 1}, {25, 1}, {26, 2}, {28, 4}, {41, 1}, {42, 2}, {44, 4}, {36, 4}, {32, 8},
        };
        for (int[] format : widths) {
            for (int size = 0; size <= 17; size++) {
                int[] item = Items.item(format[0], Items.zeros(size));
                if (size % format[1] == 0) {
                    item("format " + format[0] + " of " + size, item, size > 8 ? 3 : 0);
                } else {
                    noItem("format " + format[0] + " of " + size, item);
                }
            }
        }
    }

    /**
     * The list of a command stands in one other, the item of a variable in two. An item in seven
     * others can't be reached: its list would be one in six, which is none.
     */
    private static void itemInSixOthers() {
        Check.about("An item in six others is no list.");
        inCommand("a list in four", true, 4, Items.list());
        inCommand("a list in five", true, 5, Items.list());
        inCommand("a list in six", false, 6, Items.list());
        inCommand("a list in seven", false, 7, Items.list());
        inCommand("a number in five", true, 5, Items.n(1));
        inCommand("a number in six", true, 6, Items.n(1));
        inCommand("a number in seven", false, 7, Items.n(1));
        inCommand("a list with one in it, in five", true, 5, Items.list(Items.n(1)));
        inCommand("a list with one in it, in six", false, 6, Items.list(Items.n(1)));
        inCommand("a number in many", false, 50, Items.n(1));
        item("a list in five", Items.nested(3, Items.list()), 3);
        noItem("a list in six", Items.nested(4, Items.list()));
        int[] deep = Items.nested(4, Items.n(1));
        right("many beside one another", 2, 41,
                Items.list(Items.text("X"), Items.list(deep, deep, Items.n(1))), UNKNOWN);
        wrong("the last one of them", 2, 41,
                Items.list(Items.text("X"), Items.list(deep, deep, Items.nested(4, Items.list()))));
    }

    /** The item stands in so many others: in the command's own list, and in others within it. */
    private static void inCommand(String what, boolean may, int others, int[] item) {
        int[] body = Items.list(Items.text("X"), Items.nested(others - 1, item));
        if (may) {
            right(what, 2, 41, body, UNKNOWN);
        } else {
            wrong(what, 2, 41, body);
        }
    }

    private static void numbers() {
        Check.about("A NUMBER is an item of format 41 with one byte");
        right("one byte", 1, 3, Items.list(Items.item(41, 0)), Items.numbers(3));
        wrong("none", 1, 3, Items.list(Items.item(41)));
        wrong("two", 1, 3, Items.list(Items.item(41, 0, 0)));
        for (int format : new int[] {8, 9, 16, 25}) {
            wrong("format " + format, 1, 3, Items.list(Items.item(format, 0)));
        }
        wrong("of two bytes", 1, 3, Items.list(Items.item(42, 0, 0)));
        wrong("a list", 1, 3, Items.list(Items.list()));
        right("0 and 255 are numbers", 1, 3, Items.numbers(0, 255), Items.list(Items.n(3), Items.list()));
    }

    /** Byte by byte, as the other tests let Items write what stands in the document. */
    private static void asBytes() {
        Check.about("Below, [..] is a list, B x a BINARY item with the byte x, N x a number");
        right("[N 0, N 6]", 1, 3, Items.row(1, 2, 165, 1, 0, 165, 1, 6), 1, 2, 165, 1, 3, 1, 0);
        right("[[N 2, B 7]]", 2, 15, Items.row(1, 1, 1, 2, 165, 1, 2, 33, 1, 7), 33, 1, 0);
        right("[N 0, [[N 1, [N 5]]]]", 2, 33,
                Items.row(1, 2, 165, 1, 0, 1, 1, 1, 2, 165, 1, 1, 1, 1, 165, 1, 5), 33, 1, 0);
        right("[N 0, [[N 5, []]]]", 2, 35, Items.row(1, 2, 165, 1, 0, 1, 1, 1, 2, 165, 1, 5, 1, 0), 33, 1, 0);
        right("[BOOLEAN 1, []]", 2, 37, Items.row(1, 2, 37, 1, 1, 1, 0), 33, 1, 0);
        right("[TEXT GO, []]", 2, 41, Items.row(1, 2, 65, 2, 71, 79, 1, 0), 1, 2, 33, 1, 2, 1, 0);
        right("no body", 1, 13, Items.row(), 1, 2, 33, 1, 0, 1, 0);
        right("no body", 1, 1, Items.row(), 1, 2, 65, 2, 70, 76, 65, 1, 49);
    }

    /** From none to as many as a body has place for. */
    private static void anyNumberOfSuch() {
        Check.about("x* any number of such.");
        for (int count = 0; count <= 39; count++) {
            int[] sixes = new int[count];
            Arrays.fill(sixes, 6);
            right("[N*] of " + count, 1, 3, Items.numbers(sixes), Items.list(many(count, Items.list())));
        }
        for (int count = 0; count <= 14; count++) {
            right("pairs, " + count, 2, 15, Items.list(many(count, Items.pair(2, Items.n(1)))), Items.b(0));
        }
        int[] on = Items.item(Items.BOOLEAN, 1);
        for (int count = 0; count <= 37; count++) {
            right("events, " + count, 2, 37, Items.list(on, Items.list(many(count, Items.n(5)))), Items.b(0));
        }
        for (int count = 0; count <= 16; count++) {
            right("reports, " + count, 2, 33, Items.table(many(count, Items.entry(4))), Items.b(0));
            right("links, " + count, 2, 35, Items.table(many(count, Items.entry(5))), Items.b(0));
        }
        for (int count = 4; count <= 34; count++) {
            right("variables, " + count, 2, 33, Items.table(Items.entry(1, new int[count])), Items.b(1));
            right("reports of one, " + count, 2, 35, Items.table(Items.entry(1, new int[count])), Items.b(1));
        }
    }

    private static int[][] many(int count, int[] item) {
        int[][] items = new int[count][];
        Arrays.fill(items, item);
        return items;
    }

    private static void sizesThatAreSaid() {
        Check.about("what the machine says has k 1");
        for (int k = 1; k <= 3; k++) {
            Host host = Host.online(3);
            host.ask(2, 15, Items.wideList(k, Items.wideList(k, Items.wide(k, 41, 2), Items.wide(k, 16, 'A', 'B'))));
            host.expect("k 1", 1, 3, Items.wideList(k, Items.wide(k, 41, 2)), 4, Items.list(Items.text("AB")));
        }
    }

    private static void shapesOfRead() {
        Check.about("1, 3 with [N*]");
        right("none", 1, 3, Items.list(), Items.list());
        right("one", 1, 3, Items.numbers(0), Items.numbers(3));
        wrong("a number alone", 1, 3, Items.n(0));
        wrong("a list in it", 1, 3, Items.list(Items.list()));
        wrong("a binary", 1, 3, Items.list(Items.n(0), Items.b(0)));
        wrong("a wrong one last", 1, 3, Items.list(Items.n(0), Items.n(1), Items.text("1")));
        wrong("a wrong one first", 1, 3, Items.list(Items.text("1"), Items.n(0), Items.n(1)));
    }

    private static void shapesOfAssign() {
        Check.about("2, 15 with [[N, item]*]");
        right("none", 2, 15, Items.list(), Items.b(0));
        right("one", 2, 15, Items.list(Items.pair(2, Items.n(1))), Items.b(0));
        wrong("no list", 2, 15, Items.n(2));
        wrong("no pair", 2, 15, Items.list(Items.n(2), Items.n(3)));
        wrong("none in a pair", 2, 15, Items.list(Items.list()));
        wrong("one in a pair", 2, 15, Items.list(Items.list(Items.n(2))));
        wrong("three in a pair", 2, 15, Items.list(Items.list(Items.n(2), Items.n(3), Items.n(4))));
        wrong("the second pair", 2, 15, Items.list(Items.pair(2, Items.n(3)), Items.list()));
        wrong("no number", 2, 15, Items.list(Items.list(Items.b(2), Items.n(3))));
        wrong("behind a nested one", 2, 15, Items.list(Items.pair(2, Items.nested(2, Items.n(1))), Items.n(1)));
        wrong("before what it means", 2, 15, Items.list(Items.pair(9, Items.n(1)), Items.n(1)));
    }

    private static void shapesOfTables() {
        Check.about("2, 33 with [N, [[N, [N*]]*]] ... 2, 35 with [N, [[N, [N*]]*]]");
        for (int function = 33; function <= 35; function += 2) {
            right("an empty one", 2, function, Items.table(), Items.b(0));
            right("any first number", 2, function, Items.list(Items.n(255), Items.list()), Items.b(0));
            right("an entry with nothing", 2, function, Items.table(Items.entry(1)), Items.b(0));
            wrong("no list", 2, function, Items.n(0));
            wrong("none in it", 2, function, Items.list());
            wrong("one in it", 2, function, Items.list(Items.n(0)));
            wrong("three in it", 2, function, Items.list(Items.n(0), Items.list(), Items.list()));
            wrong("no number", 2, function, Items.list(Items.b(0), Items.list()));
            wrong("a number of two", 2, function, Items.list(Items.item(41, 0, 0), Items.list()));
            wrong("a list first", 2, function, Items.list(Items.list(), Items.list()));
            wrong("no list second", 2, function, Items.list(Items.n(0), Items.n(0)));
            wrong("an entry is no list", 2, function, Items.table(Items.n(1)));
            wrong("an entry has none", 2, function, Items.table(Items.list()));
            wrong("an entry has one", 2, function, Items.table(Items.list(Items.n(1))));
            wrong("an entry has three", 2, function, Items.table(Items.list(Items.n(1), Items.list(), Items.list())));
            wrong("an entry's number", 2, function, Items.table(Items.list(Items.b(1), Items.list())));
            wrong("an entry's list", 2, function, Items.table(Items.list(Items.n(1), Items.n(0))));
            wrong("in an entry's list", 2, function, Items.table(Items.list(Items.n(1), Items.list(Items.b(0)))));
            wrong("the second entry", 2, function,
                    Items.table(Items.entry(1), Items.list(Items.n(1), Items.list(Items.list()))));
            wrong("before what it means", 2, function, Items.table(Items.entry(99, 1, 2, 3, 4), Items.b(1)));
        }
    }

    private static void shapesOfSwitch() {
        Check.about("2, 37 with [BOOLEAN with one byte, [N*]]");
        int[] on = Items.item(Items.BOOLEAN, 1);
        right("an empty list", 2, 37, Items.list(on, Items.list()), Items.b(0));
        right("one event", 2, 37, Items.list(on, Items.numbers(1)), Items.b(0));
        wrong("no list", 2, 37, on);
        wrong("none in it", 2, 37, Items.list());
        wrong("one in it", 2, 37, Items.list(on));
        wrong("three in it", 2, 37, Items.list(on, Items.list(), Items.list()));
        wrong("a binary", 2, 37, Items.list(Items.b(1), Items.list()));
        wrong("a number", 2, 37, Items.list(Items.n(1), Items.list()));
        wrong("no byte", 2, 37, Items.list(Items.item(Items.BOOLEAN), Items.list()));
        wrong("two bytes", 2, 37, Items.list(Items.item(Items.BOOLEAN, 1, 1), Items.list()));
        wrong("no list second", 2, 37, Items.list(on, Items.n(1)));
        wrong("no numbers", 2, 37, Items.list(on, Items.list(Items.n(1), Items.b(1))));
    }

    private static void shapesOfCommand() {
        Check.about("2, 41 with [TEXT, list]");
        right("no text at all", 2, 41, Items.list(Items.text(""), Items.list()), UNKNOWN);
        right("whatever is in the list", 2, 41,
                Items.list(Items.text("X"), Items.list(Items.b(1), Items.list(Items.n(1)), Items.text("A"))), UNKNOWN);
        wrong("no list", 2, 41, Items.text("GO"));
        wrong("none in it", 2, 41, Items.list());
        wrong("one in it", 2, 41, Items.list(Items.text("GO")));
        wrong("three in it", 2, 41, Items.list(Items.text("GO"), Items.list(), Items.list()));
        noCommand("a binary", Items.item(Items.BINARY, 'G', 'O'));
        noCommand("a list first", Items.list());
        noCommand("a list first, with lists in it", Items.list(Items.list()));
        wrong("no list second", 2, 41, Items.list(Items.text("GO"), Items.n(1)));
        wrong("a text second", 2, 41, Items.list(Items.text("GO"), Items.text("GO")));
    }

    private static void refusedBodiesChangeNothing() {
        Check.about("if its body is not as it must be ... 9, 7");
        int[] behind = Items.row(0);
        int[] on = Items.list(Items.item(Items.BOOLEAN, 1), Items.list());
        unchanged(1, 15, Items.row(0));
        unchanged(2, 15, Items.list(Items.pair(2, Items.b(9))), behind);
        unchanged(2, 15, Items.list(Items.pair(2, Items.b(9)), Items.n(1)));
        unchanged(2, 33, Items.table(Items.entry(1, 0)), behind);
        unchanged(2, 33, Items.table(Items.entry(1, 0), Items.n(1)));
        unchanged(2, 37, on, behind);
        unchanged(2, 41, Items.list(Items.text("START"), Items.list()), behind);
    }

    private static void unchanged(int stream, int function, int[]... body) {
        Host host = Host.online(3);
        int[] before = Shown.kept(host.link);
        host.expectComplaint("9, 7", 7, 2, stream, function, body);
        Check.same("nothing is changed", Shown.kept(host.link), before);
    }
}
