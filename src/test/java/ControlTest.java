/** Promise 5, and 1, 15 and 1, 17: who has control, and event 1. */
public final class ControlTest {
    public static void main(String[] args) {
        wrongOnes();
        operatorSets();
        hostTakesItOffAndOn();
        chosenFromThenOn();
        answersOfOnline();
        eventOne();
        eventOneByTheHost();
        Check.end();
    }

    private static void wrongOnes() {
        FabLink link = new FabLink();
        link.control(2);
        for (int c : new int[] {1, -1, 4, 7, Integer.MIN_VALUE, Integer.MAX_VALUE}) {
            Check.refuses("control " + c, IllegalArgumentException.class, () -> link.control(c));
            Check.same("it stays", link.look(2), 2);
        }
    }

    private static void operatorSets() {
        FabLink link = new FabLink();
        for (int c : new int[] {0, 2, 2, 3, 0, 3, 2, 0, 0}) {
            link.control(c);
            Check.same("control", link.look(2), c);
            Check.same("variable 0", link.octet(0, 0), c);
            Check.same("its format", link.format(0), 41);
        }
        Check.same("nothing said", link.said(), 0);
    }

    private static void hostTakesItOffAndOn() {
        Host host = Host.online(2);
        host.expect("off", 1, 15, Items.row(), 16, Items.b(0));
        Check.same("offline by the host", host.link.look(2), 1);
        Check.same("variable 0", host.link.octet(0, 0), 1);
        host.expect("off again", 1, 15, Items.row(), 0);
        host.expect("on", 1, 17, Items.row(), 18, Items.b(0));
        Check.same("as chosen", host.link.look(2), 2);
    }

    private static void chosenFromThenOn() {
        int[][] ways = {{3}, {2}, {2, 3}, {3, 2}, {3, 2, 0, 2}, {2, 0, 3}};
        for (int[] way : ways) {
            Host host = Host.speaking();
            for (int c : way) {
                host.link.control(c);
            }
            host.ask(1, 15);
            host.ask(1, 17);
            Check.same("the last one chosen", host.link.look(2), way[way.length - 1]);
        }
        Host host = Host.online(2);
        host.ask(1, 15);
        host.link.control(0);
        host.expect("the operator's no", 1, 17, Items.row(), 18, Items.b(1));
        Check.same("offline by the operator", host.link.look(2), 0);
        host.link.control(3);
        Check.same("the operator alone", host.link.look(2), 3);
    }

    private static void answersOfOnline() {
        Host host = Host.speaking();
        host.expect("control 0", 1, 17, Items.row(), 18, Items.b(1));
        host.link.control(2);
        host.expect("control 2", 1, 17, Items.row(), 18, Items.b(2));
        host.link.control(3);
        host.expect("control 3", 1, 17, Items.row(), 18, Items.b(2));
        Check.same("it stays", host.link.look(2), 3);
    }

    private static int[] told(int number, int control) {
        return Host.own(134, 11, number, EventTest.body(1, 1, Items.list(Items.n(control), Items.n(0))));
    }

    private static void eventOne() {
        Host host = Host.reporting();
        host.link.control(3);
        Check.same("no other one", host.link.look(5), 0);
        host.link.control(2);
        Check.messages("another one", host.hearAll(), told(2, 2));
        host.link.control(0);
        Check.same("offline: nothing is told", host.link.look(5), 0);
        host.link.control(2);
        Check.messages("from offline", host.hearAll(), told(3, 2));
    }

    private static void eventOneByTheHost() {
        Host host = Host.reporting();
        host.expect("off: nothing is told", 1, 15, Items.row(), 16, Items.b(0));
        Check.messages("on: before the reply", host.ask(1, 17), told(2, 3), host.reply(1, 18, Items.b(0)));
        host.ask(1, 15);
        Check.messages("no reply wanted", host.tell(1, 17), told(3, 3));
        host.ask(1, 15);
        host.link.control(2);
        Check.messages("by the operator", host.hearAll(), told(4, 2));
    }
}
