/** Promise 9: what there is to look at, and what there is not. */
public final class LookTest {
    public static void main(String[] args) {
        anyOtherNumber();
        theLine();
        onlyFourOfTheLine();
        speaking();
        theRest();
        lookingChangesNothing();
        Check.end();
    }

    private static void anyOtherNumber() {
        Check.about("IllegalArgumentException: any other number.");
        FabLink link = new FabLink();
        for (int which : new int[] {-1, 8, 9, 10, Integer.MIN_VALUE, Integer.MAX_VALUE}) {
            Check.refuses("look " + which, IllegalArgumentException.class, () -> link.look(which));
        }
        Check.same("the first", link.look(0), 0);
        Check.same("the last", link.look(7), 0);
    }

    private static void theLine() {
        Check.about("0 the line (0 free, 1 reading, 2 offering, 3 waiting)");
        FabLink link = new FabLink();
        Check.same("free", link.look(0), 0);
        link.hear(5);
        Check.same("reading", link.look(0), 1);
        link.enable(true);
        link.hear(0);
        Check.same("offering", link.look(0), 2);
        link.hear(4);
        Check.same("waiting", link.look(0), 3);
        link.hear(6);
        Check.same("free", link.look(0), 0);
    }

    /** Where each byte and each limit of time leads from each of the four; there is no fifth. */
    private static void onlyFourOfTheLine() {
        Check.about("The machine is FREE, READING, OFFERING or WAITING.");
        for (int state = Host.FREE; state <= Host.WAITING; state++) {
            for (int b = 0; b <= 255; b++) {
                FabLink link = lineThatIs(state);
                link.hear(b);
                Check.same("from " + state + " by " + b, link.look(0), next(state, b));
            }
            FabLink link = lineThatIs(state);
            link.tick(5);
            boolean fails = state == Host.OFFERING || state == Host.WAITING;
            Check.same("from " + state + " by time", link.look(0), fails ? Host.OFFERING : Host.FREE);
        }
    }

    private static FabLink lineThatIs(int state) {
        FabLink link = new FabLink();
        if (state == Host.READING) {
            link.hear(5);
        }
        if (state == Host.OFFERING || state == Host.WAITING) {
            link.enable(true);
        }
        if (state == Host.WAITING) {
            link.hear(4);
        }
        Check.same("the line", link.look(0), state);
        return link;
    }

    private static int next(int state, int b) {
        switch (state) {
            case Host.FREE:
                return b == 5 ? Host.READING : Host.FREE;
            case Host.READING:
                return b >= 10 && b <= 130 ? Host.READING : Host.FREE;
            case Host.OFFERING:
                return b == 4 ? Host.WAITING : Host.OFFERING;
            default:
                return b == 6 ? Host.FREE : Host.OFFERING;
        }
    }

    private static void speaking() {
        Check.about("1 speaking (2; 1 enabled; 0 disabled)");
        Host host = new Host();
        Check.same("disabled", host.link.look(1), 0);
        host.link.enable(true);
        Check.same("enabled", host.link.look(1), 1);
        host.skip(1);
        host.tell(1, 13);
        Check.same("speaking", host.link.look(1), 2);
        host.link.enable(false);
        Check.same("disabled", host.link.look(1), 0);
    }

    /** Each has another value, so that none can stand for another one. */
    private static void theRest() {
        Check.about("2 control, 3 work, 4 its time, 5 messages to be sent, 6 talks that are open, 7 lost messages");
        Host host = Host.reporting();
        host.tell(2, 41, Items.list(Items.text("START"), Items.list()));
        for (int i = 0; i < 12; i++) {
            host.link.ring();
        }
        host.skip(1);
        host.link.tick(4);
        int[] due = {Host.OFFERING, 2, 3, 1, 4, 7, 2, 4};
        for (int which = 0; which < due.length; which++) {
            Check.same("look " + which, host.link.look(which), due[which]);
        }
        host.link.tick(16);
        Check.same("lost", host.link.look(7), 5);
        Check.same("to be sent", host.link.look(5), 6);
        Check.same("its time", host.link.look(4), 20);
    }

    private static void lookingChangesNothing() {
        Check.about("What there is");
        Host host = Host.reporting();
        host.link.ring();
        int[] first = Shown.all(host.link);
        Check.same("the same again", Shown.all(host.link), first);
        Check.same("its time is as before", host.link.tick(4), 0);
        Check.same("the 5th unit", host.link.tick(1), 1);
    }
}
