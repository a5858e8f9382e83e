/** Promise 6, and the message of an event. */
public final class EventTest {
    public static void main(String[] args) {
        ringSends();
        ringWhenItIsLost();
        eachEvent();
        mustBeEnabled();
        mustBeLinked();
        mustSpeak();
        mustBeOnline();
        replyWanted();
        reportsAsLinked();
        firstAndLastReport();
        valuesOfThatMoment();
        longest();
        ringWhileOffering();
        Check.end();
    }

    /** [N 0, N event, [[N report, values]]] */
    static int[] body(int event, int report, int[] values) {
        return Items.list(Items.n(0), Items.n(event), Items.list(Items.list(Items.n(report), values)));
    }

    private static void ringSends() {
        Check.about("Event 5 happens, as the operator wants: whether a message was to be sent for it");
        Host host = Host.reporting();
        int before = host.link.said();
        Check.yes("ring", host.link.ring());
        Check.same("5 is said", host.link.said(), before + 1);
        Check.same("offering", host.link.look(0), Host.OFFERING);
        Check.messages("6, 11", host.hearAll(), Host.own(134, 11, 2, body(5, 1, Items.list(Items.n(3), Items.n(0)))));
        Check.same("a talk", host.link.look(6), 1);
        Check.no("a new object", new FabLink().ring());
    }

    private static void ringWhenItIsLost() {
        Check.about("(also when it was lost at once)");
        Host host = Host.reporting();
        for (int i = 0; i < 8; i++) {
            Check.yes("ring", host.link.ring());
        }
        Check.same("none lost", host.link.look(7), 0);
        for (int lost = 1; lost <= 2; lost++) {
            Check.yes("lost at once", host.link.ring());
            Check.same("lost", host.link.look(7), lost);
            Check.same("eight", host.link.look(5), 8);
        }
        host.link.control(0);
        Check.no("no message", host.link.ring());
        Check.same("none lost for it", host.link.look(7), 2);
    }

    private static int[] told(int event, int control, int work) {
        return Host.own(134, 11, 2, body(event, 1, Items.list(Items.n(control), Items.n(work))));
    }

    /** Only the one event is enabled. */
    private static Host withEvent(int e) {
        Host host = Host.online(3);
        host.tell(2, 33, Items.table(Items.entry(1, 0, 1)));
        host.tell(2, 35, Items.table(Items.entry(1, 1), Items.entry(2, 1), Items.entry(3, 1),
                Items.entry(4, 1), Items.entry(5, 1)));
        host.tell(2, 37, Items.list(Items.item(Items.BOOLEAN, 1), Items.numbers(e)));
        return host;
    }

    private static void eachEvent() {
        Check.about("EVENTS 1 .. 5.");
        int[][] due = {told(1, 2, 0), told(2, 3, 1), told(3, 3, 0), told(4, 3, 2), told(5, 3, 0)};
        Host control = withEvent(1);
        control.link.control(2);
        Check.messages("1", control.hearAll(), due[0]);
        Check.messages("2", withEvent(2).tell(2, 41, Items.list(Items.text("START"), Items.list())), due[1]);
        Host stop = withEvent(3);
        Check.messages("not 3", stop.tell(2, 41, Items.list(Items.text("START"), Items.list())));
        Check.messages("3", stop.tell(2, 41, Items.list(Items.text("STOP"), Items.list())), due[2]);
        Host pause = withEvent(4);
        Check.messages("not 4", pause.tell(2, 41, Items.list(Items.text("START"), Items.list())));
        Check.messages("4", pause.tell(2, 41, Items.list(Items.text("PAUSE"), Items.list())), due[3]);
        Host ring = withEvent(5);
        Check.yes("ring", ring.link.ring());
        Check.messages("5", ring.hearAll(), due[4]);
    }

    private static void mustBeEnabled() {
        Check.about("When one happens, it is enabled");
        for (int e = 1; e <= 4; e++) {
            Check.no("another one is", withEvent(e).link.ring());
        }
        Host host = withEvent(5);
        Check.yes("it is", host.link.ring());
        host.skip(1);
        host.tell(2, 37, Items.list(Items.item(Items.BOOLEAN, 0), Items.numbers(5)));
        Check.no("it is not any more", host.link.ring());
        Check.same("nothing to be sent", host.link.look(5), 0);
        Check.same("none lost", host.link.look(7), 0);
    }

    private static void mustBeLinked() {
        Check.about("and linked with a report");
        Host host = Host.reporting();
        host.tell(2, 35, Items.table(Items.entry(5)));
        Check.no("with none", host.link.ring());
        host.tell(2, 35, Items.table(Items.entry(5, 1)));
        Check.yes("with one", host.link.ring());
        host.skip(1);
        host.tell(2, 35, Items.table(Items.entry(5, 1, 1)));
        Check.yes("with two", host.link.ring());
        host.skip(1);
        host.tell(2, 33, Items.table(Items.entry(1)));
        Check.no("its report is gone", host.link.ring());
    }

    private static void mustSpeak() {
        Check.about("linked with a report, the machine is speaking");
        Host host = Host.reporting();
        host.link.enable(false);
        Check.no("disabled", host.link.ring());
        host.link.enable(true);
        Check.no("enabled", host.link.ring());
        Check.same("its 1, 13 alone", host.link.look(5), 1);
        host.skip(1);
        host.say(host.message(1, 14, Items.row(0, 0, 0, 2), Items.list(Items.b(0))));
        Check.yes("speaking", host.link.ring());
    }

    private static void mustBeOnline() {
        Check.about("and control is 2 or 3: message 6, 11");
        Host host = Host.reporting();
        Check.yes("3", host.link.ring());
        host.link.control(0);
        Check.no("0", host.link.ring());
        host.link.control(2);
        Check.yes("2", host.link.ring());
        Check.same("two rings, and event 1", host.link.look(5), 3);
        host.skip(3);
        host.tell(1, 15);
        Check.no("1", host.link.ring());
        Check.same("nothing to be sent", host.link.look(5), 0);
    }

    private static void replyWanted() {
        Check.about("and control is 2 or 3: message 6, 11, a reply is wanted: "
                + "[N 0, N event, [[N report, [value*]]*]]");
        Host host = Host.reporting();
        host.link.ring();
        Check.same("6, 11", host.hearBlock(), Items.row(128, 1, 134, 11, 128, 1, 0, 0, 0, 2,
                1, 3, 165, 1, 0, 165, 1, 5, 1, 1, 1, 2, 165, 1, 1, 1, 2, 165, 1, 3, 165, 1, 0));
        Check.same("no talk yet", host.link.look(6), 0);
        host.link.hear(6);
        Check.same("a talk", host.link.look(6), 1);
        host.say(host.message(6, 12, Items.row(0, 0, 0, 2), Items.b(0)));
        Check.same("closed by its reply", host.link.look(6), 0);
    }

    private static void reportsAsLinked() {
        Check.about("the reports as linked, their variables in order");
        Host host = Host.reporting();
        host.tell(2, 33, Items.table(Items.entry(3, 5, 0, 5)));
        host.tell(2, 15, Items.list(Items.pair(5, Items.text("AB"))));
        host.tell(2, 35, Items.table(Items.entry(5, 3, 1)));
        Check.yes("ring", host.link.ring());
        int[] three = Items.list(Items.n(3), Items.list(Items.text("AB"), Items.n(3), Items.text("AB")));
        int[] one = Items.list(Items.n(1), Items.list(Items.n(3), Items.n(0)));
        Check.messages("both", host.hearAll(),
                Host.own(134, 11, 2, Items.list(Items.n(0), Items.n(5), Items.list(three, one))));
    }

    private static void firstAndLastReport() {
        Check.about("[N 0, N event, [[N report, [value*]]*]]");
        for (int r = 1; r <= 4; r++) {
            Host host = Host.online(2);
            host.tell(2, 33, Items.list(Items.n(9), Items.list(Items.entry(r, 0))));
            host.tell(2, 35, Items.list(Items.n(9), Items.list(Items.entry(5, r))));
            host.tell(2, 37, Items.list(Items.item(Items.BOOLEAN, 1), Items.list()));
            host.link.ring();
            Check.messages("report " + r, host.hearAll(), Host.own(134, 11, 2, body(5, r, Items.numbers(2))));
        }
        Host host = Host.online(2);
        host.tell(2, 33, Items.table(Items.entry(1, 0), Items.entry(2, 0), Items.entry(4, 5)));
        host.tell(2, 35, Items.table(Items.entry(5, 4, 2)));
        host.tell(2, 33, Items.table(Items.entry(4)));
        host.tell(2, 37, Items.list(Items.item(Items.BOOLEAN, 1), Items.list()));
        host.link.ring();
        Check.messages("the one that is not gone", host.hearAll(), Host.own(134, 11, 2, body(5, 2, Items.numbers(2))));
    }

    private static void valuesOfThatMoment() {
        Check.about("When one happens ... message 6, 11");
        Host host = Host.reporting();
        host.link.hear(5);
        Check.yes("ring", host.link.ring());
        host.link.control(2);
        host.link.control(0);
        host.link.hear(0);
        Check.messages("as they were", host.hearAll(),
                Host.own(134, 11, 2, body(5, 1, Items.list(Items.n(3), Items.n(0)))),
                Host.own(134, 11, 3, body(1, 1, Items.list(Items.n(2), Items.n(0)))));
    }

    /**
     * "It is lost at once if its body would have more than 120 bytes" can't be reached: the longest
     * body, with two reports of three variables with eight bytes each, has 84 bytes. It is tested here.
     */
    private static void longest() {
        Check.about("It is lost at once if its body would have more than 120 bytes.");
        Host host = Host.reporting();
        int[] eight = Items.item(32, 8, 7, 6, 5, 4, 3, 2, 1);
        int[] values = Items.list(eight, eight, eight);
        host.tell(2, 15, Items.list(Items.pair(2, eight)));
        host.tell(2, 33, Items.table(Items.entry(2, 2, 2, 2)));
        host.tell(2, 35, Items.table(Items.entry(5, 2, 2)));
        Check.yes("ring", host.link.ring());
        int[] report = Items.list(Items.n(2), values);
        int[] longest = Items.list(Items.n(0), Items.n(5), Items.list(report, report));
        Check.same("84 bytes", longest.length, 84);
        Check.messages("twice", host.hearAll(), Host.own(134, 11, 2, longest));
        Check.same("none lost", host.link.look(7), 0);
    }

    private static void ringWhileOffering() {
        Check.about("A MESSAGE that is to be sent comes behind those that are");
        Host host = Host.reporting();
        host.link.ring();
        int said = host.link.said();
        host.link.ring();
        Check.same("nothing said anew", host.link.said(), said);
        Check.same("two to be sent", host.link.look(5), 2);
        host.hearBlock();
        Check.same("6, then the next is offered", host.link.hear(6), 1);
        Check.same("5", host.link.saidAt(host.link.said() - 1), 5);
    }
}
