/** Promises 7 and 8: how many bytes were said, and which. */
public final class SaidTest {
    public static void main(String[] args) {
        nothingSaid();
        edges();
        fiveHundredBehind();
        Check.end();
    }

    private static void nothingSaid() {
        FabLink link = new FabLink();
        Check.same("said", link.said(), 0);
        for (int i : new int[] {0, -1, 1, Integer.MIN_VALUE, Integer.MAX_VALUE}) {
            Check.refuses("saidAt " + i, IndexOutOfBoundsException.class, () -> link.saidAt(i));
        }
    }

    private static void edges() {
        FabLink link = new FabLink();
        link.hear(5);
        link.hear(0);
        Check.same("said", link.said(), 2);
        Check.same("the first", link.saidAt(0), 4);
        Check.same("the last", link.saidAt(1), 21);
        Check.refuses("behind the last", IndexOutOfBoundsException.class, () -> link.saidAt(2));
        Check.refuses("before the first", IndexOutOfBoundsException.class, () -> link.saidAt(-1));
    }

    /** Pairs 4, 21 are said, so a byte's place tells what it was. */
    private static void fiveHundredBehind() {
        FabLink link = new FabLink();
        for (int i = 0; i < 250; i++) {
            link.hear(5);
            link.hear(0);
        }
        link.hear(5);
        Check.same("said", link.said(), 501);
        Check.same("500 after it", link.saidAt(0), 4);
        link.hear(0);
        Check.refuses("501 after it", IndexOutOfBoundsException.class, () -> link.saidAt(0));
        Check.same("500 after it", link.saidAt(1), 21);
        Check.same("in the middle", link.saidAt(250), 4);
        Check.same("the last", link.saidAt(501), 21);
        Check.refuses("none yet", IndexOutOfBoundsException.class, () -> link.saidAt(502));
    }
}
