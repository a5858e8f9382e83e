import java.util.List;

/** Promises 2, 3 and 9: talks are opened, closed by replies, and closed by time. */
public final class TalkTest {
    public static void main(String[] args) {
        closedByTime();
        timeOfEach();
        closedInTheMiddle();
        openedWhereOneWasClosed();
        noMoreThanEight();
        complaintThatIsLost();
        disabledToo();
        Check.end();
    }

    private static void closedByTime() {
        Host host = new Host();
        host.link.enable(true);
        int[] sent = host.hearMessage();
        Check.same("44 units", host.link.tick(44), 0);
        Check.same("open", host.link.look(6), 1);
        Check.same("the 45th", host.link.tick(1), 1);
        Check.same("closed", host.link.look(6), 0);
        Check.messages("9, 9", host.hearAll(), Host.complaint(9, 2, sent));
        Check.same("9, 9 opens none", host.link.look(6), 0);
    }

    private static void timeOfEach() {
        Host host = Host.reporting();
        host.link.ring();
        host.link.ring();
        host.link.ring();
        int[] first = host.hearMessage();
        host.link.tick(3);
        int[] second = host.hearMessage();
        int[] third = host.hearMessage();
        Check.same("open", host.link.look(6), 3);
        Check.same("42 units", host.link.tick(41), 0);
        Check.same("the first", host.link.tick(1), 1);
        Check.same("two open", host.link.look(6), 2);
        Check.messages("9, 9", host.hearAll(), Host.complaint(9, 5, first));
        Check.same("three more", host.link.tick(3), 1);
        Check.same("none open", host.link.look(6), 0);
        Check.messages("in their order", host.hearAll(),
                Host.complaint(9, 6, second), Host.complaint(9, 7, third));
    }

    private static void closedInTheMiddle() {
        Host host = Host.reporting();
        for (int i = 0; i < 3; i++) {
            host.link.ring();
        }
        List<int[]> sent = host.hearAll();
        host.say(host.message(6, 12, Items.row(0, 0, 0, 3), Items.b(0)));
        Check.same("two open", host.link.look(6), 2);
        host.say(host.message(6, 12, Items.row(0, 0, 0, 3), Items.b(0)));
        Check.same("no other is closed", host.link.look(6), 2);
        host.link.ring();
        sent.addAll(host.hearAll());
        host.say(host.message(6, 0, Items.row(0, 0, 0, 2)));
        Check.same("two open", host.link.look(6), 2);
        host.link.tick(45);
        Check.messages("the others", host.hearAll(),
                Host.complaint(9, 6, sent.get(2)), Host.complaint(9, 7, sent.get(3)));
    }

    /** A new talk's time begins with it, whatever those had that were closed. */
    private static void openedWhereOneWasClosed() {
        Host host = Host.reporting();
        host.link.ring();
        host.hearMessage();
        host.link.tick(10);
        host.link.ring();
        int[] second = host.hearMessage();
        host.link.tick(10);
        host.say(host.message(6, 12, Items.row(0, 0, 0, 2)));
        host.link.ring();
        int[] third = host.hearMessage();
        Check.same("34 units", host.link.tick(34), 0);
        Check.same("the second", host.link.tick(1), 1);
        Check.messages("the second", host.hearAll(), Host.complaint(9, 5, second));
        Check.same("9 units", host.link.tick(9), 0);
        Check.same("the third", host.link.tick(1), 1);
        Check.messages("the third", host.hearAll(), Host.complaint(9, 6, third));
    }

    private static void noMoreThanEight() {
        Host host = Host.reporting();
        for (int i = 0; i < 8; i++) {
            host.link.ring();
            host.skip(1);
        }
        Check.same("eight", host.link.look(6), 8);
        host.link.ring();
        Check.same("sent", host.hearMessage()[9], 10);
        Check.same("eight still", host.link.look(6), 8);
        host.say(host.message(6, 12, Items.row(0, 0, 0, 10)));
        Check.same("none for the ninth", host.link.look(6), 8);
        host.say(host.message(6, 12, Items.row(0, 0, 0, 9)));
        Check.same("one for the eighth", host.link.look(6), 7);
        host.link.ring();
        host.hearMessage();
        Check.same("eight again", host.link.look(6), 8);
        host.link.tick(45);
        Check.same("eight complaints", host.link.look(5), 8);
        Check.same("none lost", host.link.look(7), 0);
    }

    private static void complaintThatIsLost() {
        Host host = Host.reporting();
        host.link.ring();
        host.hearMessage();
        for (int i = 0; i < 45; i += 5) {
            host.link.tick(5);
        }
        host.hearAll();
        host.link.ring();
        host.hearMessage();
        host.link.tick(40);
        for (int i = 0; i < 8; i++) {
            host.link.ring();
        }
        host.link.tick(5);
        Check.same("closed", host.link.look(6), 0);
        Check.same("lost at once", host.link.look(7), 1);
        Check.same("eight others", host.link.look(5), 8);
    }

    private static void disabledToo() {
        Host host = new Host();
        host.link.enable(true);
        int[] sent = host.hearMessage();
        host.link.enable(false);
        host.link.tick(45);
        Check.messages("9, 9", host.hearAll(), Host.complaint(9, 2, sent));
    }
}
