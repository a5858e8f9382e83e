/** Promise 3, THE LINE: how long the machine reads, offers and waits while nothing is heard. */
public final class TimeTest {
    public static void main(String[] args) {
        units();
        readingNoByte();
        readingOthers();
        offering();
        waiting();
        fromWhenItCameToRead();
        fromWhenItCameToOffer();
        fromWhenItCameToWait();
        anewFromEachByte();
        bytesThatAreNothing();
        freeHasNoTime();
        Check.end();
    }

    private static void units() {
        Check.about("So many units of time go by: ... IllegalArgumentException: not 1 .. 60.");
        FabLink link = new FabLink();
        link.enable(true);
        for (int units : new int[] {0, -1, 61, 62, Integer.MIN_VALUE, Integer.MAX_VALUE}) {
            Check.refuses("tick " + units, IllegalArgumentException.class, () -> link.tick(units));
        }
        Check.same("no time went by", link.tick(4), 0);
        Check.same("1 is enough", link.tick(1), 1);
        Check.same("60 are not too many", new FabLink().tick(60), 0);
        // A talk ends with unit 45, and its 9, 9 is offered then and with units 50, 55 and 60.
        for (int sum : new int[] {59, 60}) {
            Host host = new Host();
            host.openTalks(1);
            Check.same("all of " + sum, host.link.tick(sum), sum == 60 ? 4 : 3);
        }
    }

    private static void readingNoByte() {
        Check.about("When nothing was heard for 5 units of time while it was ... reading no byte yet ... "
                + "reading: it says 21, and is free");
        for (int more : new int[] {1, 2, 56, 60}) {
            FabLink link = new FabLink();
            link.hear(5);
            Check.same("4 units", link.tick(4), 0);
            Check.same("reading", link.look(0), Host.READING);
            Check.same("the 5th", link.tick(more), 1);
            Check.same("says 21", link.saidAt(1), 21);
            Check.same("free", link.look(0), Host.FREE);
            Check.same("a length is nothing now", link.hear(10), 0);
            Check.same("free", link.look(0), Host.FREE);
        }
        FabLink link = new FabLink();
        link.hear(5);
        Check.same("5 in one call", link.tick(5), 1);
    }

    private static void readingOthers() {
        Check.about("or for 2 units while it was reading others: reading: it says 21, and is free");
        for (int heard = 1; heard <= 12; heard++) {
            FabLink link = new FabLink();
            link.hear(5);
            for (int i = 0; i < heard; i++) {
                link.hear(10);
            }
            Check.same("1 unit after " + heard, link.tick(1), 0);
            Check.same("reading", link.look(0), Host.READING);
            Check.same("2 units after " + heard, link.tick(1), 1);
            Check.same("says 21", link.saidAt(1), 21);
            Check.same("free", link.look(0), Host.FREE);
        }
        FabLink link = new FabLink();
        link.hear(5);
        link.hear(130);
        Check.same("2 in one call", link.tick(2), 1);
    }

    private static void offering() {
        Check.about("When nothing was heard for 5 units of time while it was offering ... else it was a failure");
        FabLink link = new FabLink();
        link.enable(true);
        for (int failures = 1; failures <= 3; failures++) {
            Check.same("4 units", link.tick(4), 0);
            Check.same("offering", link.look(0), Host.OFFERING);
            Check.same("the 5th: offered again", link.tick(1), 1);
            Check.same("5", link.saidAt(failures), 5);
        }
        Check.same("4 units", link.tick(4), 0);
        Check.same("not lost", link.look(7), 0);
        Check.same("the fourth failure", link.tick(1), 0);
        Check.same("lost", link.look(7), 1);
    }

    private static void waiting() {
        Check.about("When nothing was heard for 5 units of time while it was ... waiting ... else it was a failure");
        FabLink link = new FabLink();
        link.enable(true);
        for (int failures = 1; failures <= 3; failures++) {
            link.hear(4);
            Check.same("4 units", link.tick(4), 0);
            Check.same("waiting", link.look(0), Host.WAITING);
            Check.same("the 5th: offered again", link.tick(1), 1);
            Check.same("offering", link.look(0), Host.OFFERING);
        }
        link.hear(4);
        Check.same("4 units", link.tick(4), 0);
        Check.same("not lost", link.look(7), 0);
        Check.same("the fourth failure", link.tick(1), 0);
        Check.same("lost", link.look(7), 1);
        Check.same("free", link.look(0), Host.FREE);
    }

    private static void fromWhenItCameToRead() {
        Check.about("Units are counted from when it came to ... or read");
        FabLink link = new FabLink();
        link.tick(4);
        link.hear(5);
        Check.same("4 units", link.tick(4), 0);
        Check.same("the 5th", link.tick(1), 1);
        link.tick(3);
        link.hear(5);
        Check.same("4 units again", link.tick(4), 0);
        Check.same("the 5th", link.tick(1), 1);
    }

    private static void fromWhenItCameToOffer() {
        Check.about("Units are counted from when it came to offer");
        FabLink link = new FabLink();
        link.tick(4);
        link.enable(true);
        Check.same("4 units", link.tick(4), 0);
        Check.same("the 5th", link.tick(1), 1);
        Host next = new Host();
        next.fill(2);
        next.link.tick(3);
        next.link.hear(4);
        next.link.tick(3);
        next.link.hear(6);
        Check.same("the next one's 4 units", next.link.tick(4), 0);
        Check.same("its 5th", next.link.tick(1), 1);
        Host read = new Host();
        read.link.hear(5);
        read.fill(1);
        read.link.tick(4);
        Check.same("21, then 5", read.link.hear(0), 2);
        Check.same("4 units of offering", read.link.tick(4), 0);
        Check.same("the 5th", read.link.tick(1), 1);
    }

    private static void fromWhenItCameToWait() {
        Check.about("Units are counted from when it came to ... wait");
        FabLink link = new FabLink();
        link.enable(true);
        link.tick(4);
        link.hear(4);
        Check.same("4 units", link.tick(4), 0);
        Check.same("waiting", link.look(0), Host.WAITING);
        Check.same("the 5th", link.tick(1), 1);
    }

    private static void anewFromEachByte() {
        Check.about("and anew from each byte that it reads");
        FabLink link = new FabLink();
        link.hear(5);
        link.tick(4);
        for (int b : Host.block(new int[10])) {
            Check.same("reading", link.look(0), Host.READING);
            link.hear(b);
            link.tick(1);
        }
        Check.same("the whole block", link.saidAt(1), 6);
        FabLink late = new FabLink();
        late.hear(5);
        late.hear(10);
        late.tick(1);
        late.hear(0);
        Check.same("1 unit after the second byte", late.tick(1), 0);
        Check.same("2 units after it", late.tick(1), 1);
    }

    private static void bytesThatAreNothing() {
        Check.about("A byte that is nothing to it does not count.");
        for (int b : new int[] {0, 3, 5, 6, 21, 255}) {
            FabLink link = new FabLink();
            link.enable(true);
            for (int unit = 1; unit <= 4; unit++) {
                Check.same("nothing", link.hear(b), 0);
                Check.same("unit " + unit, link.tick(1), 0);
            }
            Check.same("nothing", link.hear(b), 0);
            Check.same("the 5th unit", link.tick(1), 1);
        }
    }

    private static void freeHasNoTime() {
        Check.about("When nothing was heard for 5 units of time while it was offering, waiting, or reading");
        FabLink link = new FabLink();
        for (int i = 0; i < 10; i++) {
            Check.same("free", link.tick(60), 0);
        }
        Check.same("free", link.look(0), Host.FREE);
        Check.same("none lost", link.look(7), 0);
    }
}
