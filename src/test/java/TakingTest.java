/** Promise 2: what becomes of a message that is taken, before its body is looked at. */
public final class TakingTest {
    public static void main(String[] args) {
        disabled();
        fromAMachine();
        otherDevice();
        otherBlock();
        notSpeaking();
        otherStream();
        otherFunction();
        offline();
        noReplyWanted();
        repliesBearTheSystemBytes();
        areYouThere();
        numbersGoOn();
        Check.end();
    }

    private static int[] with(int[] message, int place, int b) {
        int[] other = message.clone();
        other[place] = b;
        return other;
    }

    private static void disabled() {
        Host host = new Host();
        int[] greeting = host.message(129, 13, host.nextSystem());
        Check.same("1, 13", host.say(greeting), Items.row(6));
        Check.same("another device", host.say(with(greeting, 1, 9)), Items.row(6));
        Check.same("another block", host.say(with(greeting, 5, 9)), Items.row(6));
        Check.same("disabled", host.link.look(1), 0);
        Host off = Host.online(3);
        off.link.enable(false);
        Check.messages("1, 1", off.ask(1, 1));
        Check.messages("9, 1 no more", off.ask(7, 1));
    }

    private static void fromAMachine() {
        Host host = Host.speaking();
        int[] greeting = host.message(129, 13, host.nextSystem());
        Check.same("highest bit", host.say(with(greeting, 0, 128)), Items.row(6));
        Check.same("and more", host.say(with(greeting, 0, 255)), Items.row(6));
        Check.same("nothing to be sent", host.link.look(5), 0);
    }

    private static void otherDevice() {
        Host host = Host.enabled();
        int[] greeting = host.message(129, 13, host.nextSystem(), Items.b(1));
        int number = 2;
        int[][] wrong = {
            with(greeting, 1, 0), with(greeting, 1, 2), with(greeting, 0, 1), with(greeting, 0, 127),
            with(with(greeting, 1, 2), 5, 2), with(with(greeting, 1, 2), 3, 14), with(with(greeting, 1, 2), 2, 1),
        };
        for (int[] message : wrong) {
            Check.same("6, then 5", host.say(message), Items.row(6, 5));
            Check.messages("9, 1", host.hearAll(), Host.complaint(1, number, message));
            number++;
        }
        Check.same("not speaking", host.link.look(1), 1);
        Check.same("no talk", host.link.look(6), 0);
    }

    private static void otherBlock() {
        Host host = Host.enabled();
        int[] greeting = host.message(129, 13, host.nextSystem());
        int number = 2;
        int[][] wrong = {
            with(greeting, 4, 0), with(greeting, 4, 129), with(greeting, 5, 0), with(greeting, 5, 2),
            with(with(greeting, 5, 2), 3, 14),
        };
        for (int[] message : wrong) {
            host.say(message);
            Check.messages("9, 11", host.hearAll(), Host.complaint(11, number, message));
            number++;
        }
        Check.same("not speaking", host.link.look(1), 1);
    }

    private static void notSpeaking() {
        Host host = Host.enabled();
        host.link.control(3);
        Check.messages("1, 1", host.ask(1, 1));
        Check.messages("another stream", host.ask(3, 1));
        Check.messages("another function", host.ask(1, 5));
        Check.messages("2, 13 is not 1, 13", host.ask(2, 13));
        Check.messages("a wrong body", host.ask(1, 3));
        Check.same("not speaking", host.link.look(1), 1);
        host.expect("1, 13", 1, 13, Items.row(), 14, Items.list(Items.b(0), Items.list()));
        Check.same("speaking", host.link.look(1), 2);
    }

    private static void otherStream() {
        Host host = Host.speaking();
        int number = 2;
        for (int stream : new int[] {0, 3, 6, 9, 127}) {
            host.expectComplaint("stream " + stream, 3, number, stream, 13);
            number++;
        }
        host.link.control(3);
        host.expectComplaint("online", 3, number, 64, 99);
    }

    private static void otherFunction() {
        for (int function : new int[] {5, 11, 19, 33, 255}) {
            Host.speaking().expectComplaint("1, " + function, 5, 2, 1, function);
        }
        for (int function : new int[] {1, 3, 13, 17, 31, 39, 43, 255}) {
            Host.speaking().expectComplaint("2, " + function, 5, 2, 2, function);
        }
    }

    private static void offline() {
        int[][] named = {{1, 1}, {1, 3}, {1, 15}, {2, 15}, {2, 33}, {2, 35}, {2, 37}, {2, 41}};
        for (int[] kind : named) {
            Host host = Host.speaking();
            host.expect("offline " + kind[0] + ", " + kind[1], kind[0], kind[1], Items.row(), 0);
            host.link.control(2);
            host.tell(1, 15);
            Check.same("offline by the host", host.link.look(2), 1);
            host.expect("by the host " + kind[0] + ", " + kind[1], kind[0], kind[1], Items.row(), 0);
        }
        Host host = Host.speaking();
        host.expect("whatever the body", 1, 1, Items.row(1, 2, 3), 0);
        host.expect("1, 13", 1, 13, Items.row(), 14, Items.list(Items.b(0), Items.list()));
        host.expect("1, 17", 1, 17, Items.row(), 18, Items.b(1));
    }

    private static void noReplyWanted() {
        Host host = Host.enabled();
        Check.messages("1, 13", host.tell(1, 13));
        Check.same("speaking", host.link.look(1), 2);
        Check.messages("offline", host.tell(1, 1));
        host.link.control(3);
        Check.messages("1, 1", host.tell(1, 1));
        Check.messages("2, 15", host.tell(2, 15, Items.list(Items.pair(2, Items.n(9)))));
        Check.same("done all the same", host.link.octet(2, 0), 9);
        int[] message = host.message(2, 15, host.nextSystem());
        host.say(message);
        Check.messages("a complaint is no reply", host.hearAll(), Host.complaint(7, 2, message));
        Check.messages("1, 15", host.tell(1, 15));
        Check.same("done", host.link.look(2), 1);
        Check.messages("1, 17", host.tell(1, 17));
        Check.same("done", host.link.look(2), 3);
    }

    private static void repliesBearTheSystemBytes() {
        for (int[] system : new int[][] {{255, 255, 255, 255}, {0, 0, 0, 0}, {128, 0, 127, 1}}) {
            Host host = Host.speaking();
            host.say(host.message(129, 17, system));
            Check.messages("1, 18", host.hearAll(),
                    Items.join(Items.row(128, 1, 1, 18, 128, 1), system, Items.b(1)));
            Check.same("a reply opens no talk", host.link.look(6), 0);
        }
    }

    private static void areYouThere() {
        Host host = Host.online(2);
        host.expect("1, 1", 1, 1, Items.row(), 2, Items.list(Items.text("FL"), Items.text("1")));
        host.expectComplaint("with a body", 7, 2, 1, 1, Items.list());
    }

    /** Replies take no number. */
    private static void numbersGoOn() {
        Host host = Host.online(3);
        host.ask(1, 1);
        host.expectComplaint("9, 3", 3, 2, 5, 1);
        host.ask(1, 1);
        host.expectComplaint("9, 5", 5, 3, 1, 5);
        host.link.enable(false);
        host.link.enable(true);
        Check.same("1, 13", host.hearMessage()[9], 4);
    }
}
