/** Promise 2: bodies that are as they must be, and those that are not (9, 7). */
public final class BodyTest {
    public static void main(String[] args) {
        noBody();
        sizesInMoreBytes();
        brokenItems();
        formats();
        nesting();
        shapesOfRead();
        shapesOfAssign();
        shapesOfTables();
        shapesOfSwitch();
        shapesOfCommand();
        greatestBody();
        Check.end();
    }

    private static void wrong(String what, int stream, int function, int[]... body) {
        Host.online(3).expectComplaint(what, 7, 2, stream, function, body);
    }

    private static void right(String what, int stream, int function, int[] body, int... replyBody) {
        Host.online(3).expect(what, stream, function, body, function + 1, replyBody);
    }

    /** As the item of a variable it is taken: the reply is B 0, or B 3 for one that is well made but too long. */
    private static void item(String what, int[] item, int due) {
        right(what, 2, 15, Items.list(Items.pair(2, item)), Items.b(due));
    }

    private static void noItem(String what, int... bytes) {
        wrong(what, 2, 15, Items.list(Items.pair(2, bytes)));
    }

    private static void noBody() {
        for (int[] kind : new int[][] {{1, 1}, {1, 15}, {1, 17}}) {
            wrong("a body", kind[0], kind[1], Items.row(0));
            wrong("an item", kind[0], kind[1], Items.list());
        }
        for (int[] kind : new int[][] {{1, 3}, {2, 15}, {2, 33}, {2, 35}, {2, 37}, {2, 41}}) {
            wrong("no body", kind[0], kind[1]);
        }
        Host host = Host.online(3);
        host.expectComplaint("1, 15 with a body", 7, 2, 1, 15, Items.b(0));
        Check.same("control stays", host.link.look(2), 3);
        host.link.control(0);
        host.expectComplaint("1, 17 with a body, offline", 7, 3, 1, 17, Items.b(0));
    }

    private static void sizesInMoreBytes() {
        for (int k = 2; k <= 3; k++) {
            right("a wide list", 1, 3, Items.wideList(k, Items.wide(k, Items.NUMBER, 0)), 1, 1, 165, 1, 3);
            item("a wide text", Items.wide(k, Items.TEXT, 'A', 'B'), 0);
        }
        noItem("a size of 256", Items.join(Items.row(66, 1, 0), Items.zeros(8)));
        noItem("a size of 65536", Items.join(Items.row(67, 1, 0, 0), Items.zeros(8)));
        wrong("a list of 256", 1, 3, Items.row(2, 1, 0));
        wrong("a list of 16777215", 1, 3, Items.join(Items.row(3, 255, 255, 255), Items.n(1)));
    }

    private static void brokenItems() {
        wrong("nothing but a list's byte", 1, 3, Items.row(1));
        wrong("half a size", 1, 3, Items.row(2, 0));
        wrong("two thirds of a size", 1, 3, Items.row(3, 0, 0));
        wrong("k is 0", 1, 3, Items.row(0));
        wrong("k is 0, and a size", 1, 3, Items.row(0, 0));
        wrong("too few items", 1, 3, Items.row(1, 2, 165, 1, 0));
        wrong("too few bytes", 1, 3, Items.row(1, 1, 165, 1));
        wrong("one byte behind it", 1, 3, Items.row(1, 0, 0));
        wrong("an item behind it", 1, 3, Items.list(), Items.list());
        noItem("k is 0", 164);
        noItem("k is 0, and a size", 164, 1, 0);
        noItem("text too short", 65, 3, 'A', 'B');
    }

    private static void formats() {
        int[][] widths = {
            {8, 1}, {9, 1}, {16, 1}, {25, 1}, {26, 2}, {28, 4}, {41, 1}, {42, 2}, {44, 4}, {36, 4}, {32, 8},
        };
        boolean[] known = new boolean[64];
        known[0] = true;
        for (int[] format : widths) {
            known[format[0]] = true;
            for (int size = 0; size <= 17; size++) {
                int[] item = Items.item(format[0], Items.zeros(size));
                if (size % format[1] == 0) {
                    item("format " + format[0] + " of " + size, item, size > 8 ? 3 : 0);
                } else {
                    noItem("format " + format[0] + " of " + size, item);
                }
            }
        }
        for (int format = 0; format < 64; format++) {
            if (!known[format]) {
                noItem("format " + format, Items.item(format));
                noItem("format " + format, Items.item(format, Items.zeros(8)));
            }
        }
    }

    /** The item of 2, 15 stands in two lists already, the list of a command in one. */
    private static void nesting() {
        int[] taken = Items.list(Items.b(1), Items.list());
        right("lists in five", 2, 41, Items.list(Items.text("X"), Items.nested(5, Items.n(1))), taken);
        right("an empty list in five", 2, 41, Items.list(Items.text("X"), Items.nested(4, Items.list())), taken);
        wrong("a list in six", 2, 41, Items.list(Items.text("X"), Items.nested(6, Items.n(1))));
        wrong("an empty list in six", 2, 41, Items.list(Items.text("X"), Items.nested(5, Items.list())));
        wrong("a list in many", 2, 41, Items.list(Items.text("X"), Items.nested(50, Items.n(1))));
        item("lists in five", Items.nested(4, Items.n(1)), 3);
        noItem("a list in six", Items.nested(5, Items.n(1)));
        int[] deep = Items.nested(4, Items.n(1));
        right("many beside one another", 2, 41,
                Items.list(Items.text("X"), Items.list(deep, deep, Items.n(1))), taken);
    }

    private static void shapesOfRead() {
        right("none", 1, 3, Items.list(), Items.list());
        wrong("a number alone", 1, 3, Items.n(0));
        wrong("a list in it", 1, 3, Items.list(Items.list()));
        wrong("a binary", 1, 3, Items.list(Items.n(0), Items.b(0)));
        wrong("a number of two bytes", 1, 3, Items.list(Items.item(42, 0, 0)));
        wrong("two numbers in one", 1, 3, Items.list(Items.item(41, 0, 0)));
        wrong("none in one", 1, 3, Items.list(Items.item(41)));
        wrong("one with a sign", 1, 3, Items.list(Items.item(25, 0)));
        wrong("a wrong one last", 1, 3, Items.list(Items.n(0), Items.n(1), Items.text("1")));
    }

    private static void shapesOfAssign() {
        right("none", 2, 15, Items.list(), Items.b(0));
        wrong("no list", 2, 15, Items.n(2));
        wrong("no pair", 2, 15, Items.list(Items.n(2), Items.n(3)));
        wrong("one in a pair", 2, 15, Items.list(Items.list(Items.n(2))));
        wrong("three in a pair", 2, 15, Items.list(Items.list(Items.n(2), Items.n(3), Items.n(4))));
        wrong("the second pair", 2, 15, Items.list(Items.pair(2, Items.n(3)), Items.list()));
        wrong("no number", 2, 15, Items.list(Items.list(Items.b(2), Items.n(3))));
        wrong("behind a nested one", 2, 15, Items.list(Items.pair(2, Items.nested(2, Items.n(1))), Items.n(1)));
    }

    private static void shapesOfTables() {
        for (int function = 33; function <= 35; function += 2) {
            right("an empty one", 2, function, Items.table(), Items.b(0));
            right("any first number", 2, function, Items.list(Items.n(255), Items.list()), Items.b(0));
            wrong("no list", 2, function, Items.n(0));
            wrong("one in it", 2, function, Items.list(Items.n(0)));
            wrong("three in it", 2, function, Items.list(Items.n(0), Items.list(), Items.list()));
            wrong("no number", 2, function, Items.list(Items.b(0), Items.list()));
            wrong("a list first", 2, function, Items.list(Items.list(), Items.list()));
            wrong("no list second", 2, function, Items.list(Items.n(0), Items.n(0)));
            wrong("an entry is no list", 2, function, Items.table(Items.n(1)));
            wrong("an entry has one", 2, function, Items.table(Items.list(Items.n(1))));
            wrong("an entry has three", 2, function, Items.table(Items.list(Items.n(1), Items.list(), Items.list())));
            wrong("an entry's number", 2, function, Items.table(Items.list(Items.b(1), Items.list())));
            wrong("an entry's list", 2, function, Items.table(Items.list(Items.n(1), Items.n(0))));
            wrong("in an entry's list", 2, function, Items.table(Items.list(Items.n(1), Items.list(Items.b(0)))));
            wrong("the second entry", 2, function,
                    Items.table(Items.entry(1), Items.list(Items.n(1), Items.list(Items.list()))));
            wrong("before what it means", 2, function, Items.table(Items.entry(99, 1, 2, 3, 4), Items.b(1)));
        }
    }

    private static void shapesOfSwitch() {
        int[] on = Items.item(Items.BOOLEAN, 1);
        right("an empty list", 2, 37, Items.list(on, Items.list()), Items.b(0));
        wrong("no list", 2, 37, on);
        wrong("one in it", 2, 37, Items.list(on));
        wrong("three in it", 2, 37, Items.list(on, Items.list(), Items.list()));
        wrong("a binary", 2, 37, Items.list(Items.b(1), Items.list()));
        wrong("no byte", 2, 37, Items.list(Items.item(Items.BOOLEAN), Items.list()));
        wrong("two bytes", 2, 37, Items.list(Items.item(Items.BOOLEAN, 1, 1), Items.list()));
        wrong("no list second", 2, 37, Items.list(on, Items.n(1)));
        wrong("no numbers", 2, 37, Items.list(on, Items.list(Items.n(1), Items.b(1))));
    }

    private static void shapesOfCommand() {
        int[] unknown = Items.list(Items.b(1), Items.list());
        right("no text at all", 2, 41, Items.list(Items.text(""), Items.list()), unknown);
        right("whatever is in the list", 2, 41,
                Items.list(Items.text("X"), Items.list(Items.b(1), Items.list(Items.n(1)), Items.text("A"))), unknown);
        wrong("no list", 2, 41, Items.text("GO"));
        wrong("one in it", 2, 41, Items.list(Items.text("GO")));
        wrong("three in it", 2, 41, Items.list(Items.text("GO"), Items.list(), Items.list()));
        wrong("a binary", 2, 41, Items.list(Items.item(Items.BINARY, 'G', 'O'), Items.list()));
        wrong("a list first", 2, 41, Items.list(Items.list(), Items.list()));
        wrong("a list first, with lists in it", 2, 41, Items.list(Items.list(Items.list()), Items.list()));
        wrong("no list second", 2, 41, Items.list(Items.text("GO"), Items.n(1)));
    }

    private static void greatestBody() {
        int[] unknown = Items.list(Items.b(1), Items.list());
        int[] body = Items.list(Items.text("X".repeat(114)), Items.list());
        Check.same("120 bytes", body.length, 120);
        right("120 bytes", 2, 41, body, unknown);
        int[][] empty = new int[57][];
        java.util.Arrays.fill(empty, Items.list());
        int[] crowded = Items.list(Items.item(Items.TEXT), Items.list(empty));
        Check.same("60 items", crowded.length, 120);
        right("60 items", 2, 41, crowded, unknown);
    }
}
