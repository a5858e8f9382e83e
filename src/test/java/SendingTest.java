/** Promises 2, 3, 7 and 9: what is to be sent, its handshake, failures and losses. */
public final class SendingTest {
    public static void main(String[] args) {
        offer();
        wholeBlock();
        otherBytesWhileOffering();
        silenceWhileOffering();
        silenceWhileWaiting();
        anyOtherByteIsAFailure();
        lostAfterFourFailures();
        failuresCountForEachMessage();
        failuresOfOldOnesAreForgotten();
        onlyEightAreKept();
        theOrderStays();
        units();
        Check.end();
    }

    private static void offer() {
        FabLink link = new FabLink();
        link.enable(true);
        Check.same("offering", link.look(0), Host.OFFERING);
        Check.same("said", link.said(), 1);
        Check.same("5", link.saidAt(0), 5);
        Check.same("to be sent", link.look(5), 1);
        Check.same("4 makes it say the block", link.hear(4), 22);
        Check.same("waiting", link.look(0), Host.WAITING);
        Check.same("still to be sent", link.look(5), 1);
        Check.same("no talk yet", link.look(6), 0);
        Check.same("6", link.hear(6), 0);
        Check.same("free", link.look(0), Host.FREE);
        Check.same("sent", link.look(5), 0);
        Check.same("a talk", link.look(6), 1);
        Check.same("said in all", link.said(), 23);
    }

    private static void wholeBlock() {
        Host host = new Host();
        host.link.enable(true);
        int[] message = host.hearBlock();
        int[] due = Items.row(128, 1, 129, 13, 128, 1, 0, 0, 0, 1, 1, 2, 65, 2, 'F', 'L', 65, 1, '1');
        Check.same("1, 13", message, due);
        Check.same("its length and sum", host.lastSaid(22), Host.block(due));
    }

    private static void otherBytesWhileOffering() {
        FabLink link = new FabLink();
        link.enable(true);
        for (int b = 0; b < 256; b++) {
            if (b != 4) {
                Check.same("offering hears " + b, link.hear(b), 0);
            }
        }
        Check.same("offering", link.look(0), Host.OFFERING);
        Check.same("4", link.hear(4), 22);
    }

    private static void silenceWhileOffering() {
        FabLink link = new FabLink();
        link.enable(true);
        Check.same("4 units", link.tick(4), 0);
        link.hear(5);
        Check.same("a byte that is nothing does not count", link.tick(1), 1);
        Check.same("offered again", link.saidAt(1), 5);
        Check.same("offering", link.look(0), Host.OFFERING);
        Check.same("counted anew", link.tick(4), 0);
        Check.same("and again", link.tick(1), 1);
    }

    private static void silenceWhileWaiting() {
        FabLink link = new FabLink();
        link.enable(true);
        link.tick(4);
        link.hear(4);
        Check.same("counted from when it came to wait", link.tick(4), 0);
        Check.same("waiting", link.look(0), Host.WAITING);
        Check.same("a failure", link.tick(1), 1);
        Check.same("offering", link.look(0), Host.OFFERING);
        Check.same("none lost", link.look(7), 0);
    }

    private static void anyOtherByteIsAFailure() {
        for (int b : new int[] {0, 4, 5, 21, 255}) {
            FabLink link = new FabLink();
            link.enable(true);
            link.hear(4);
            Check.same("waiting hears " + b, link.hear(b), 1);
            Check.same("offering", link.look(0), Host.OFFERING);
            Check.same("to be sent", link.look(5), 1);
            Check.same("the whole block again", link.hear(4), 22);
        }
    }

    private static void lostAfterFourFailures() {
        FabLink link = new FabLink();
        link.enable(true);
        link.tick(5);
        link.hear(4);
        link.hear(21);
        link.hear(4);
        link.tick(5);
        Check.same("three", link.look(7), 0);
        Check.same("three: to be sent", link.look(5), 1);
        Check.same("the fourth", link.tick(5), 0);
        Check.same("lost", link.look(7), 1);
        Check.same("not to be sent", link.look(5), 0);
        Check.same("free", link.look(0), Host.FREE);
        Check.same("no talk", link.look(6), 0);
        FabLink deaf = new FabLink();
        deaf.enable(true);
        Check.same("four times in one tick", deaf.tick(60), 3);
        Check.same("lost", deaf.look(7), 1);
    }

    private static void failuresCountForEachMessage() {
        Host host = Host.reporting();
        Check.yes("ring", host.link.ring());
        Check.yes("ring", host.link.ring());
        Check.same("the first fails four times", host.link.tick(20), 4);
        Check.same("one lost", host.link.look(7), 1);
        Check.same("the second has three", host.link.tick(15), 3);
        Check.same("one lost still", host.link.look(7), 1);
        Check.same("it is sent", host.hearMessage()[9], 3);
        Check.yes("ring", host.link.ring());
        Check.same("a new one has none", host.link.tick(15), 3);
        Check.same("one lost still", host.link.look(7), 1);
        Check.same("its fourth", host.link.tick(5), 0);
        Check.same("two lost", host.link.look(7), 2);
    }

    /** Each of many messages fails three times, and none is lost. */
    private static void failuresOfOldOnesAreForgotten() {
        FabLink link = new FabLink();
        for (int i = 0; i < 20; i++) {
            link.enable(true);
            Check.same("three failures", link.tick(15), 3);
            link.hear(4);
            link.hear(6);
            Check.same("sent", link.look(5), 0);
            link.enable(false);
            link.tick(45);
            link.hear(4);
            link.hear(6);
        }
        Check.same("none lost", link.look(7), 0);
    }

    private static void onlyEightAreKept() {
        Host host = Host.reporting();
        for (int i = 0; i < 8; i++) {
            Check.yes("ring", host.link.ring());
            Check.same("to be sent", host.link.look(5), i + 1);
        }
        Check.same("none lost", host.link.look(7), 0);
        Check.yes("the ninth, lost at once", host.link.ring());
        Check.same("eight", host.link.look(5), 8);
        Check.same("one lost", host.link.look(7), 1);
        Check.same("the first number", host.hearMessage()[9], 2);
        Check.yes("one more", host.link.ring());
        host.skip(7);
        Check.same("the lost one had number 10", host.hearMessage()[9], 11);
        host.link.hear(5);
        for (int i = 0; i < 9; i++) {
            host.link.ring();
        }
        Check.same("while reading too", host.link.look(7), 2);
    }

    private static void theOrderStays() {
        Host host = Host.reporting();
        host.link.ring();
        host.link.control(2);
        host.link.ring();
        int[] values = Items.list(Items.n(3), Items.n(0));
        int[] later = Items.list(Items.n(2), Items.n(0));
        Check.messages("as they came", host.hearAll(),
                Host.own(134, 11, 2, EventTest.body(5, 1, values)),
                Host.own(134, 11, 3, EventTest.body(1, 1, later)),
                Host.own(134, 11, 4, EventTest.body(5, 1, later)));
    }

    private static void units() {
        FabLink link = new FabLink();
        link.enable(true);
        for (int units : new int[] {0, -1, 61, Integer.MIN_VALUE, Integer.MAX_VALUE}) {
            Check.refuses("tick " + units, IllegalArgumentException.class, () -> link.tick(units));
        }
        Check.same("no time went by", link.tick(4), 0);
        Check.same("1 is enough", link.tick(1), 1);
        Check.same("60 are not too many", new FabLink().tick(60), 0);
    }
}
