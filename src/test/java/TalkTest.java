import java.util.List;

/** Promises 2, 3 and 9: talks are closed by replies, and by time. */
public final class TalkTest {
    public static void main(String[] args) {
        fortyFiveUnits();
        headerOfWhatItWasOpenedFor();
        timeOfEach();
        replyInTime();
        closedInTheMiddle();
        openedWhereOneWasClosed();
        eightAtOnce();
        complaintThatIsLost();
        disabledToo();
        Check.end();
    }

    private static void fortyFiveUnits() {
        Check.about("TALKS that are open for 45 units are closed: message 9, 9");
        for (int first : new int[] {1, 22, 43, 44}) {
            Host host = new Host();
            host.openTalks(1);
            Check.same("nothing", host.link.tick(first), 0);
            if (first < 44) {
                Check.same("44 units", host.link.tick(44 - first), 0);
            }
            Check.same("open", host.link.look(6), 1);
            Check.same("the 45th", host.link.tick(1), 1);
            Check.same("closed", host.link.look(6), 0);
            Check.same("to be sent", host.link.look(5), 1);
        }
        for (int units : new int[] {44, 45, 46}) {
            Host host = new Host();
            host.openTalks(1);
            Check.same(units + " in one call", host.link.tick(units), units < 45 ? 0 : 1);
            Check.same("talks", host.link.look(6), units < 45 ? 1 : 0);
        }
        Host waited = new Host();
        waited.link.enable(true);
        waited.link.hear(4);
        waited.link.tick(4);
        waited.link.hear(6);
        Check.same("from when it was opened", waited.link.tick(44), 0);
        Check.same("the 45th", waited.link.tick(1), 1);
    }

    private static void headerOfWhatItWasOpenedFor() {
        Check.about("message 9, 9 with the header of what it was opened for");
        Host host = new Host();
        host.link.enable(true);
        int[] sent = host.hearMessage();
        host.link.tick(45);
        Check.messages("9, 9", host.hearAll(), Host.own(9, 9, 2, Items.row(33, 10, 128, 1, 129, 13, 128, 1, 0, 0, 0, 1)));
        Check.same("9, 9 opens none", host.link.look(6), 0);
        Check.same("its header", Host.complaint(9, 2, sent),
                Host.own(9, 9, 2, Items.row(33, 10, 128, 1, 129, 13, 128, 1, 0, 0, 0, 1)));
        Host ringing = Host.reporting();
        ringing.link.ring();
        ringing.skip(1);
        ringing.link.tick(45);
        Check.messages("of 6, 11", ringing.hearAll(),
                Host.own(9, 9, 3, Items.row(33, 10, 128, 1, 134, 11, 128, 1, 0, 0, 0, 2)));
    }

    private static void timeOfEach() {
        Check.about("TALKS that are open for 45 units");
        Host host = new Host();
        host.link.enable(true);
        int[] first = host.hearMessage();
        host.link.tick(3);
        host.fill(2);
        int[] second = host.hearMessage();
        int[] third = host.hearMessage();
        Check.same("open", host.link.look(6), 3);
        Check.same("44 units", host.link.tick(41), 0);
        Check.same("the first", host.link.tick(1), 1);
        Check.same("two open", host.link.look(6), 2);
        Check.messages("9, 9", host.hearAll(), Host.complaint(9, 4, first));
        Check.same("two more", host.link.tick(2), 0);
        Check.same("three more", host.link.tick(1), 1);
        Check.same("none open", host.link.look(6), 0);
        Check.messages("in their order", host.hearAll(),
                Host.complaint(9, 5, second), Host.complaint(9, 6, third));
    }

    private static void replyInTime() {
        Check.about("if a talk is open ... it is closed");
        Host host = new Host();
        host.openTalks(1);
        host.link.tick(44);
        host.say(host.message(1, 14, Items.row(0, 0, 0, 1), Items.list(Items.b(0))));
        Check.same("after 44 units", host.link.look(6), 0);
        Check.same("speaking", host.link.look(1), 2);
        Check.same("no 9, 9", host.link.tick(60), 0);
        Host late = new Host();
        late.openTalks(1);
        late.link.tick(45);
        late.skip(1);
        late.say(late.message(1, 14, Items.row(0, 0, 0, 1), Items.list(Items.b(0))));
        Check.same("after 45 units it is no reply", late.link.look(1), 1);
        Check.same("nothing is said of it", late.link.look(5), 0);
    }

    private static void closedInTheMiddle() {
        Check.about("whose system bytes are");
        Host host = Host.reporting();
        for (int i = 0; i < 3; i++) {
            host.link.ring();
        }
        List<int[]> sent = host.hearAll();
        host.say(host.message(6, 12, Items.row(0, 0, 0, 3), Items.b(0)));
        Check.same("two open", host.link.look(6), 2);
        host.say(host.message(6, 12, Items.row(0, 0, 0, 3), Items.b(0)));
        Check.same("no other is closed", host.link.look(6), 2);
        host.link.ring();
        sent.addAll(host.hearAll());
        host.say(host.message(6, 0, Items.row(0, 0, 0, 2)));
        Check.same("two open", host.link.look(6), 2);
        host.link.tick(45);
        Check.messages("the others", host.hearAll(),
                Host.complaint(9, 6, sent.get(2)), Host.complaint(9, 7, sent.get(3)));
    }

    /** A new talk's time begins with it, whatever those had that were closed. */
    private static void openedWhereOneWasClosed() {
        Check.about("TALKS that are open for 45 units");
        Host host = new Host();
        host.openTalks(1);
        host.link.tick(10);
        host.fill(1);
        int[] second = host.hearMessage();
        host.link.tick(10);
        host.say(host.message(1, 0, Items.row(0, 0, 0, 1)));
        host.fill(1);
        int[] third = host.hearMessage();
        Check.same("34 units", host.link.tick(34), 0);
        Check.same("the second", host.link.tick(1), 1);
        Check.messages("the second", host.hearAll(), Host.complaint(9, 4, second));
        Check.same("9 units", host.link.tick(9), 0);
        Check.same("the third", host.link.tick(1), 1);
        Check.messages("the third", host.hearAll(), Host.complaint(9, 5, third));
    }

    private static void eightAtOnce() {
        Check.about("talks, in the order in which they were opened");
        Host host = new Host();
        host.openTalks(9);
        Check.same("eight", host.link.look(6), 8);
        host.link.tick(45);
        Check.same("none", host.link.look(6), 0);
        Check.same("eight complaints", host.link.look(5), 8);
        Check.same("none lost", host.link.look(7), 0);
        for (int number = 1; number <= 8; number++) {
            int[] message = host.hearMessage();
            Check.same("its number", message[9], 9 + number);
            Check.same("the talk's number", message[21], number);
        }
        Check.same("nothing for the ninth", host.link.look(0), Host.FREE);
    }

    private static void complaintThatIsLost() {
        Check.about("TALKS that are open for 45 units are closed");
        Host host = new Host();
        host.openTalks(2);
        host.link.tick(44);
        host.fill(7);
        host.link.tick(1);
        Check.same("both are closed", host.link.look(6), 0);
        Check.same("the second 9, 9 is lost at once", host.link.look(7), 1);
        Check.same("eight", host.link.look(5), 8);
        host.skip(7);
        Check.same("the first talk's", host.hearMessage()[21], 1);
    }

    private static void disabledToo() {
        Check.about("TALKS that are open for 45 units are closed");
        Host host = new Host();
        host.link.enable(true);
        int[] sent = host.hearMessage();
        host.link.enable(false);
        host.link.tick(45);
        Check.messages("9, 9", host.hearAll(), Host.complaint(9, 2, sent));
    }
}
