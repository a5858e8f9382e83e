/** Promise 6, and the message of an event. */
public final class EventTest {
    public static void main(String[] args) {
        ringSends();
        whatItNeeds();
        reportsInOrder();
        valuesOfThatMoment();
        longest();
        ringWhileOffering();
        Check.end();
    }

    /** [N 0, N event, [[N report, values]]] */
    static int[] body(int event, int report, int[] values) {
        return Items.list(Items.n(0), Items.n(event), Items.list(Items.list(Items.n(report), values)));
    }

    private static void ringSends() {
        Host host = Host.reporting();
        int before = host.link.said();
        Check.yes("ring", host.link.ring());
        Check.same("5 is said", host.link.said(), before + 1);
        Check.same("offering", host.link.look(0), Host.OFFERING);
        Check.messages("6, 11", host.hearAll(), Host.own(134, 11, 2, body(5, 1, Items.list(Items.n(3), Items.n(0)))));
        Check.same("a talk", host.link.look(6), 1);
    }

    private static void whatItNeeds() {
        Check.no("a new one", new FabLink().ring());
        Host off = Host.reporting();
        off.link.control(0);
        Check.no("offline by the operator", off.link.ring());
        off.link.control(2);
        off.hearAll();
        Check.yes("local", off.link.ring());
        Host byHost = Host.reporting();
        byHost.ask(1, 15);
        Check.no("offline by the host", byHost.link.ring());
        Host silent = Host.reporting();
        silent.link.enable(false);
        Check.no("disabled", silent.link.ring());
        silent.link.enable(true);
        Check.no("not speaking", silent.link.ring());
        Host unlinked = Host.reporting();
        unlinked.ask(2, 35, Items.table(Items.entry(5)));
        Check.no("not linked", unlinked.link.ring());
        Host gone = Host.reporting();
        gone.ask(2, 33, Items.table());
        Check.no("its report is gone", gone.link.ring());
        Host other = Host.reporting();
        other.ask(2, 37, Items.list(Items.item(Items.BOOLEAN, 0), Items.numbers(5)));
        Check.no("not enabled", other.link.ring());
        Check.same("nothing to be sent", other.link.look(5), 0);
        Check.same("none lost", other.link.look(7), 0);
    }

    private static void reportsInOrder() {
        Host host = Host.reporting();
        host.ask(2, 33, Items.table(Items.entry(3, 5, 0, 5)));
        host.ask(2, 15, Items.list(Items.pair(5, Items.text("AB"))));
        host.ask(2, 35, Items.table(Items.entry(5, 3, 1)));
        Check.yes("ring", host.link.ring());
        int[] three = Items.list(Items.n(3), Items.list(Items.text("AB"), Items.n(3), Items.text("AB")));
        int[] one = Items.list(Items.n(1), Items.list(Items.n(3), Items.n(0)));
        Check.messages("both", host.hearAll(),
                Host.own(134, 11, 2, Items.list(Items.n(0), Items.n(5), Items.list(three, one))));
    }

    private static void valuesOfThatMoment() {
        Host host = Host.reporting();
        host.link.hear(5);
        Check.yes("ring", host.link.ring());
        host.link.control(2);
        host.link.control(0);
        host.link.hear(0);
        Check.messages("as they were", host.hearAll(),
                Host.own(134, 11, 2, body(5, 1, Items.list(Items.n(3), Items.n(0)))),
                Host.own(134, 11, 3, body(1, 1, Items.list(Items.n(2), Items.n(0)))));
    }

    /** Two reports of three variables with eight bytes: the longest body of an event, 84 bytes. */
    private static void longest() {
        Host host = Host.reporting();
        int[] eight = Items.item(32, 8, 7, 6, 5, 4, 3, 2, 1);
        int[] values = Items.list(eight, eight, eight);
        host.ask(2, 15, Items.list(Items.pair(2, eight)));
        host.ask(2, 33, Items.table(Items.entry(2, 2, 2, 2)));
        host.ask(2, 35, Items.table(Items.entry(5, 2, 2)));
        Check.yes("ring", host.link.ring());
        int[] report = Items.list(Items.n(2), values);
        Check.messages("twice", host.hearAll(),
                Host.own(134, 11, 2, Items.list(Items.n(0), Items.n(5), Items.list(report, report))));
        Check.same("none lost", host.link.look(7), 0);
    }

    private static void ringWhileOffering() {
        Host host = Host.reporting();
        host.link.ring();
        int said = host.link.said();
        host.link.ring();
        Check.same("nothing said anew", host.link.said(), said);
        Check.same("two to be sent", host.link.look(5), 2);
        host.hearBlock();
        Check.same("6, then the next is offered", host.link.hear(6), 1);
        Check.same("5", host.link.saidAt(host.link.said() - 1), 5);
    }
}
