/** Writes items and bodies as rows of bytes. */
final class Items {
    static final int BINARY = 8;
    static final int BOOLEAN = 9;
    static final int TEXT = 16;
    static final int NUMBER = 41;

    private Items() {
    }

    static int[] join(int[]... parts) {
        int length = 0;
        for (int[] part : parts) {
            length += part.length;
        }
        int[] whole = new int[length];
        int at = 0;
        for (int[] part : parts) {
            System.arraycopy(part, 0, whole, at, part.length);
            at += part.length;
        }
        return whole;
    }

    static int[] row(int... bytes) {
        return bytes;
    }

    static int[] head(int format, int k, int size) {
        int[] head = new int[1 + k];
        head[0] = 4 * format + k;
        for (int i = 0; i < k; i++) {
            head[k - i] = size >> 8 * i & 255;
        }
        return head;
    }

    static int[] item(int format, int... bytes) {
        return join(head(format, 1, bytes.length), bytes);
    }

    /** An item whose size stands in k bytes. */
    static int[] wide(int k, int format, int... bytes) {
        return join(head(format, k, bytes.length), bytes);
    }

    static int[] list(int[]... items) {
        return join(head(0, 1, items.length), join(items));
    }

    static int[] wideList(int k, int[]... items) {
        return join(head(0, k, items.length), join(items));
    }

    static int[] b(int x) {
        return item(BINARY, x);
    }

    static int[] n(int x) {
        return item(NUMBER, x);
    }

    static int[] numbers(int... xs) {
        int[][] items = new int[xs.length][];
        for (int i = 0; i < xs.length; i++) {
            items[i] = n(xs[i]);
        }
        return list(items);
    }

    static int[] text(String text) {
        return item(TEXT, text.chars().toArray());
    }

    static int[] zeros(int count) {
        return new int[count];
    }

    /** [N, [N*]]: a report with its variables, or an event with its reports. */
    static int[] entry(int first, int... others) {
        return list(n(first), numbers(others));
    }

    /** [N, [[N, [N*]]*]] */
    static int[] table(int[]... entries) {
        return list(n(0), list(entries));
    }

    static int[] pair(int variable, int[] item) {
        return list(n(variable), item);
    }

    /** A one-byte item in so many lists, each with nothing else in it. */
    static int[] nested(int lists, int[] inmost) {
        int[] whole = inmost;
        for (int i = 0; i < lists; i++) {
            whole = list(whole);
        }
        return whole;
    }
}
