/** Promises 7 and 8: how many bytes were said, and which. */
public final class SaidTest {
    private static final int OFFER_AND_BLOCK = 23;

    public static void main(String[] args) {
        howMany();
        nothingSaid();
        edges();
        fiveHundredBehind();
        manyBehind();
        Check.end();
    }

    private static void howMany() {
        Check.about("How many bytes were said.");
        Host host = new Host();
        Check.same("none", host.link.said(), 0);
        host.link.hear(4);
        Check.same("nothing was said by that", host.link.said(), 0);
        host.link.enable(true);
        Check.same("by enable", host.link.said(), 1);
        host.link.hear(4);
        Check.same("by hear", host.link.said(), 23);
        host.link.tick(5);
        Check.same("by tick", host.link.said(), 24);
    }

    private static void nothingSaid() {
        Check.about("IndexOutOfBoundsException: there is none such");
        FabLink link = new FabLink();
        Check.same("said", link.said(), 0);
        for (int i : new int[] {0, -1, 1, Integer.MIN_VALUE, Integer.MAX_VALUE}) {
            Check.refuses("saidAt " + i, IndexOutOfBoundsException.class, () -> link.saidAt(i));
        }
    }

    private static void edges() {
        Check.about("The i-th byte that was said (from 0).");
        FabLink link = new FabLink();
        link.hear(5);
        link.hear(0);
        Check.same("said", link.said(), 2);
        Check.same("the first", link.saidAt(0), 4);
        Check.same("the last", link.saidAt(1), 21);
        for (int i : new int[] {-1, 2, 3, Integer.MIN_VALUE, Integer.MAX_VALUE}) {
            Check.refuses("saidAt " + i, IndexOutOfBoundsException.class, () -> link.saidAt(i));
        }
    }

    /** Pairs 4, 21 are said, so a byte's place tells what it was. */
    private static void fiveHundredBehind() {
        Check.about("or more than 500 were said after it");
        FabLink link = new FabLink();
        for (int i = 0; i < 250; i++) {
            link.hear(5);
            link.hear(0);
        }
        Check.same("499 after it", link.saidAt(0), 4);
        link.hear(5);
        Check.same("500 after it", link.saidAt(0), 4);
        link.hear(0);
        Check.refuses("501 after it", IndexOutOfBoundsException.class, () -> link.saidAt(0));
        Check.same("500 after it", link.saidAt(1), 21);
        Check.same("in the middle", link.saidAt(250), 4);
        Check.same("the last", link.saidAt(501), 21);
        Check.refuses("none yet", IndexOutOfBoundsException.class, () -> link.saidAt(502));
    }

    /** Eight messages fail four times each: more than 700 bytes are said. */
    private static void manyBehind() {
        Check.about("or more than 500 were said after it");
        Host host = new Host();
        host.fill(8);
        for (int i = 0; i < 32; i++) {
            host.link.hear(4);
            host.link.hear(21);
            int said = host.link.said();
            for (int place : new int[] {said - 502, said - 501, said - 1}) {
                if (place >= 0) {
                    byteAt(host.link, place, said);
                }
            }
        }
        int said = host.link.said();
        Check.same("said", said, 32 * OFFER_AND_BLOCK);
        Check.refuses("the first", IndexOutOfBoundsException.class, () -> host.link.saidAt(0));
        for (int i = said - 501; i < said; i += 5) {
            byteAt(host.link, i, said);
        }
    }

    private static void byteAt(FabLink link, int i, int said) {
        if (said - 1 - i > 500) {
            Check.refuses("byte " + i + " of " + said, IndexOutOfBoundsException.class, () -> link.saidAt(i));
            return;
        }
        int place = i % OFFER_AND_BLOCK;
        int number = 1 + i / OFFER_AND_BLOCK / 4;
        int[] name = Items.list(Items.text("FL"), Items.text("1"));
        int due = place == 0 ? 5 : Host.block(Host.own(129, 13, number, name))[place - 1];
        Check.same("byte " + i + " of " + said, link.saidAt(i), due);
    }
}
