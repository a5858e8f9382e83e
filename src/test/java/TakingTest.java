/** Promise 2: what becomes of a message that is taken, before its body is looked at. */
public final class TakingTest {
    private static final int[][] NAMED = {
        {1, 1}, {1, 3}, {1, 13}, {1, 15}, {1, 17}, {2, 15}, {2, 33}, {2, 35}, {2, 37}, {2, 41},
    };

    public static void main(String[] args) {
        headers();
        disabled();
        highestBit();
        otherDevice();
        otherBlock();
        complaints();
        notSpeaking();
        otherStream();
        otherFunction();
        offline();
        onlyTwoWhileOffline();
        noReplyWanted();
        streamBytes();
        functionOneMore();
        orderOfReasons();
        areYouThere();
        refusedOnesChangeNothing();
        Check.end();
    }

    private static int[] with(int[] message, int place, int b) {
        int[] other = message.clone();
        other[place] = b;
        return other;
    }

    /** Another byte at each of the ten places, and what it is taken for there. */
    private static void headers() {
        Check.about("A HEADER is the first 10 bytes of a message: two for the DEVICE, "
                + "one for the STREAM (128 more when a reply is wanted), one for the FUNCTION, "
                + "two for the block's number, four SYSTEM bytes.");
        int[] request = Items.row(0, 1, 129, 1, 128, 1, 11, 22, 33, 44);
        int[] reasons = {1, 1, 3, 5, 11, 11};
        for (int place = 0; place < reasons.length; place++) {
            Host host = Host.online(3);
            int[] other = with(request, place, 99);
            host.say(other);
            Check.messages("place " + place, host.hearAll(), Host.complaint(reasons[place], 2, other));
        }
        int[] name = Items.list(Items.text("FL"), Items.text("1"));
        for (int place = 6; place < 10; place++) {
            Host host = Host.online(3);
            int[] other = with(request, place, 99);
            int[] reply = with(with(with(other, 0, 128), 2, 1), 3, 2);
            host.say(other);
            Check.messages("place " + place, host.hearAll(), Items.join(reply, name));
        }
        Host host = Host.online(3);
        host.say(with(request, 2, 1));
        Check.messages("no reply is wanted", host.hearAll());
        host.say(Items.join(request, Items.row(99)));
        Check.messages("the eleventh byte is no more of it", host.hearAll(), Host.complaint(7, 2, request));
    }

    private static void disabled() {
        Check.about("DISABLED ... nothing");
        Host host = new Host();
        int[] greeting = host.message(129, 13, host.nextSystem());
        Check.same("1, 13", host.say(greeting), Items.row(6));
        Check.same("another device", host.say(with(greeting, 1, 9)), Items.row(6));
        Check.same("another block", host.say(with(greeting, 5, 9)), Items.row(6));
        Check.same("disabled", host.link.look(1), 0);
        Host off = Host.online(3);
        off.link.enable(false);
        int[] before = Shown.kept(off.link);
        Check.messages("1, 1", off.ask(1, 1));
        Check.messages("no 9, 3", off.ask(7, 1));
        Check.messages("no 9, 5", off.ask(1, 5));
        Check.messages("no 9, 7", off.ask(1, 3));
        Check.messages("1, 15", off.ask(1, 15));
        Check.same("nothing is changed", Shown.kept(off.link), before);
        Host begun = new Host();
        int[] block = Host.block(begun.message(1, 13, begun.nextSystem()));
        begun.link.hear(5);
        for (int i = 0; i < block.length; i++) {
            if (i == block.length - 1) {
                begun.link.enable(true);
            }
            begun.link.hear(block[i]);
        }
        Check.same("enabled before the last byte", begun.link.look(1), 2);
    }

    private static void highestBit() {
        Check.about("or if the device bytes' highest bit is set: nothing");
        for (int device : new int[] {128, 129, 255}) {
            Host host = Host.enabled();
            int[] greeting = host.message(129, 13, host.nextSystem());
            Check.same("device " + device, host.say(with(greeting, 0, device)), Items.row(6));
            Check.same("and another block", host.say(with(with(greeting, 0, device), 5, 9)), Items.row(6));
            Check.same("and another device", host.say(with(with(greeting, 0, device), 1, 9)), Items.row(6));
            Check.same("not speaking", host.link.look(1), 1);
            Check.same("nothing to be sent", host.link.look(5), 0);
        }
        for (int[] device : new int[][] {{127, 1}, {64, 1}, {0, 129}, {0, 128}, {127, 255}}) {
            Host host = Host.enabled();
            int[] greeting = host.message(129, 13, host.nextSystem());
            Check.same("not the highest bit",
                    host.say(with(with(greeting, 0, device[0]), 1, device[1])), Items.row(6, 5));
        }
        Host talking = new Host();
        talking.openTalks(1);
        int[] reply = talking.message(1, 14, Items.row(0, 0, 0, 1), Items.list(Items.b(0)));
        talking.say(with(reply, 0, 128));
        Check.same("a reply with it closes no talk", talking.link.look(6), 1);
    }

    private static void otherDevice() {
        Check.about("If the device is not 0, 1: message 9, 1.");
        Host host = Host.enabled();
        int[] greeting = host.message(129, 13, host.nextSystem(), Items.b(1));
        int[][] wrong = {
            with(greeting, 1, 0), with(greeting, 1, 2), with(greeting, 0, 1), with(greeting, 0, 127),
            with(greeting, 1, 255), with(greeting, 1, 129), with(with(greeting, 0, 1), 1, 0),
            with(with(greeting, 1, 2), 5, 2), with(with(greeting, 1, 2), 3, 14), with(with(greeting, 1, 2), 2, 1),
        };
        int number = 2;
        for (int[] message : wrong) {
            if (number == 7) {
                host = Host.enabled();
                number = 2;
            }
            Check.same("6, then 5", host.say(message), Items.row(6, 5));
            Check.messages("9, 1", host.hearAll(), Host.complaint(1, number, message));
            Check.same("not speaking", host.link.look(1), 1);
            number++;
        }
        Check.same("no talk", host.link.look(6), 0);
        Check.same("0, 1", Host.enabled().say(greeting), Items.row(6, 5));
    }

    private static void otherBlock() {
        Check.about("If the block's number is not 128, 1: message 9, 11.");
        int[] greeting = new Host().message(129, 13, Items.row(1, 2, 3, 4));
        int[][] wrong = {
            with(greeting, 4, 127), with(greeting, 4, 129), with(greeting, 5, 0), with(greeting, 5, 2),
            with(greeting, 4, 0), with(greeting, 5, 255), with(with(greeting, 4, 0), 5, 0),
            with(with(greeting, 4, 1), 5, 128), with(with(greeting, 5, 2), 3, 14), with(with(greeting, 5, 2), 2, 1),
        };
        for (int[] message : wrong) {
            Host host = Host.enabled();
            Check.same("6, then 5", host.say(message), Items.row(6, 5));
            Check.messages("9, 11", host.hearAll(), Host.complaint(11, 2, message));
            Check.same("not speaking", host.link.look(1), 1);
        }
        Host talking = new Host();
        talking.openTalks(1);
        talking.say(with(talking.message(1, 14, Items.row(0, 0, 0, 1), Items.list(Items.b(0))), 5, 2));
        Check.same("a reply in another block closes no talk", talking.link.look(6), 1);
    }

    private static void complaints() {
        Check.about("A message 9, x wants no reply, and its body is a BINARY item with the header of what was taken.");
        int[][] headers = {
            {0, 2, 129, 13, 128, 1, 255, 254, 253, 252}, {0, 2, 1, 13, 128, 1, 0, 0, 0, 0},
            {127, 255, 255, 255, 255, 255, 255, 255, 255, 255}, {0, 0, 0, 0, 0, 0, 0, 0, 0, 0},
        };
        for (int[] header : headers) {
            for (int[] body : new int[][] {Items.row(), Items.row(9), Items.zeros(120)}) {
                Host host = Host.enabled();
                host.say(Items.join(header, body));
                int[] message = host.hearMessage();
                Check.same("9, 1", message, Items.join(
                        Items.row(128, 1, 9, 1, 128, 1, 0, 0, 0, 2), Items.row(33, 10), header));
                Check.same("no talk", host.link.look(6), 0);
            }
        }
    }

    private static void notSpeaking() {
        Check.about("An odd function: if the machine is not speaking and it is not 1, 13: nothing");
        for (int[] kind : NAMED) {
            Host host = Host.enabled();
            host.link.control(3);
            boolean greets = kind[0] == 1 && kind[1] == 13;
            Check.same(kind[0] + ", " + kind[1], host.ask(kind[0], kind[1]).size(), greets ? 1 : 0);
            Check.same("speaking", host.link.look(1), greets ? 2 : 1);
        }
        for (int[] kind : new int[][] {{0, 13}, {2, 13}, {3, 13}, {127, 13}, {1, 11}, {1, 255}, {3, 1}, {1, 5}}) {
            Host host = Host.enabled();
            Check.messages(kind[0] + ", " + kind[1], host.ask(kind[0], kind[1]));
            Check.same("not speaking", host.link.look(1), 1);
        }
        Host host = Host.enabled();
        Check.messages("1, 15 with a wrong body", host.ask(1, 15, Items.row(0)));
        host.expect("1, 13", 1, 13, Items.row(), 14, Items.list(Items.b(0), Items.list()));
        Check.same("speaking", host.link.look(1), 2);
    }

    private static void otherStream() {
        Check.about("A stream that is not 1 or 2: 9, 3.");
        for (int stream : new int[] {0, 3, 4, 6, 9, 64, 126, 127}) {
            for (int function : new int[] {1, 13, 17, 255}) {
                Host.speaking().expectComplaint("stream " + stream, 3, 2, stream, function);
            }
        }
        Host.online(3).expectComplaint("online", 3, 2, 64, 99);
        Host host = Host.speaking();
        int[] message = host.message(3, 1, host.nextSystem());
        host.say(message);
        Check.messages("no reply wanted", host.hearAll(), Host.complaint(3, 2, message));
    }

    private static void otherFunction() {
        Check.about("A function of these that is not named here: 9, 5.");
        for (int stream = 1; stream <= 2; stream++) {
            for (int function = 1; function <= 255; function += 2) {
                if (!isNamed(stream, function)) {
                    Host.speaking().expectComplaint(stream + ", " + function, 5, 2, stream, function);
                }
            }
        }
        Host.online(3).expectComplaint("online", 5, 2, 2, 1);
    }

    private static boolean isNamed(int stream, int function) {
        for (int[] kind : NAMED) {
            if (kind[0] == stream && kind[1] == function) {
                return true;
            }
        }
        return false;
    }

    private static void offline() {
        Check.about("If control is 0 or 1 and it is not 1, 13 or 1, 17: the reply with function 0 and no body.");
        for (int[] kind : NAMED) {
            boolean answered = kind[0] == 1 && (kind[1] == 13 || kind[1] == 17);
            Host host = Host.speaking();
            if (!answered) {
                host.expect("control 0", kind[0], kind[1], Items.row(), 0);
                host.link.control(2);
                host.tell(1, 15);
                Check.same("offline by the host", host.link.look(2), 1);
                host.expect("control 1", kind[0], kind[1], Items.row(), 0);
                Check.messages("no reply wanted", host.tell(kind[0], kind[1]));
            }
        }
        int[][] bodies = {Items.row(0), Items.row(1, 2, 3), Items.list(), Items.numbers(0)};
        for (int[] body : bodies) {
            Host.speaking().expect("whatever the body", 1, 3, body, 0);
        }
        Host local = Host.online(2);
        local.expect("control 2", 1, 3, Items.numbers(0), 4, Items.numbers(2));
        Host remote = Host.online(3);
        remote.expect("control 3", 1, 3, Items.numbers(0), 4, Items.numbers(3));
    }

    private static void onlyTwoWhileOffline() {
        Check.about("and it is not 1, 13 or 1, 17");
        Host host = Host.speaking();
        host.expect("1, 13, control 0", 1, 13, Items.row(), 14, Items.list(Items.b(0), Items.list()));
        host.expect("1, 17, control 0", 1, 17, Items.row(), 18, Items.b(1));
        host.link.control(2);
        host.tell(1, 15);
        host.expect("1, 13, control 1", 1, 13, Items.row(), 14, Items.list(Items.b(0), Items.list()));
        host.expect("1, 17, control 1", 1, 17, Items.row(), 18, Items.b(0));
    }

    private static void noReplyWanted() {
        Check.about("Where no reply is wanted, there is none.");
        Host host = Host.enabled();
        Check.messages("1, 13", host.tell(1, 13));
        Check.same("speaking", host.link.look(1), 2);
        Check.messages("offline", host.tell(1, 1));
        host.link.control(3);
        Check.messages("1, 1", host.tell(1, 1));
        Check.messages("1, 3", host.tell(1, 3, Items.numbers(0)));
        Check.messages("2, 15", host.tell(2, 15, Items.list(Items.pair(2, Items.n(9)))));
        Check.same("done all the same", host.link.octet(2, 0), 9);
        Check.messages("2, 15 refused", host.tell(2, 15, Items.list(Items.pair(6, Items.n(9)))));
        Check.messages("2, 33", host.tell(2, 33, Items.table(Items.entry(1, 0))));
        Check.same("done", host.link.report(1), 1);
        Check.messages("2, 41", host.tell(2, 41, Items.list(Items.text("START"), Items.list())));
        Check.same("done", host.link.look(3), 1);
        int[] message = host.message(2, 15, host.nextSystem());
        host.say(message);
        Check.messages("a complaint is no reply", host.hearAll(), Host.complaint(7, 2, message));
        Check.messages("1, 15", host.tell(1, 15));
        Check.same("done", host.link.look(2), 1);
        Check.messages("1, 17", host.tell(1, 17));
        Check.same("done", host.link.look(2), 3);
    }

    private static void streamBytes() {
        Check.about("one for the STREAM (128 more when a reply is wanted)");
        int[][] due = {{1, 0}, {2, 0}, {129, 1}, {130, 1}};
        for (int[] d : due) {
            Host host = Host.speaking();
            host.say(host.message(d[0], d[0] % 128 == 1 ? 1 : 15, host.nextSystem()));
            Check.same("stream byte " + d[0], host.link.look(5), d[1]);
        }
        for (int streamByte : new int[] {0, 3, 127, 128, 131, 255}) {
            Host host = Host.speaking();
            int[] message = host.message(streamByte, 1, host.nextSystem());
            host.say(message);
            Check.messages("stream byte " + streamByte, host.hearAll(), Host.complaint(3, 2, message));
        }
    }

    private static void functionOneMore() {
        Check.about("If it is: what is said, and the reply with the function one more.");
        int[] one = Items.list(Items.n(0), Items.list());
        int[][] bodies = {
            Items.row(), Items.list(), Items.row(), Items.row(), Items.row(), Items.list(), one, one,
            Items.list(Items.item(Items.BOOLEAN, 0), Items.list()), Items.list(Items.text(""), Items.list()),
        };
        for (int i = 0; i < NAMED.length; i++) {
            Host host = Host.online(3);
            int[] reply = host.ask(NAMED[i][0], NAMED[i][1], bodies[i]).get(0);
            Check.same("the stream", reply[2], NAMED[i][0]);
            Check.same("the function", reply[3], NAMED[i][1] + 1);
            Check.same("nothing more", host.link.look(5), 0);
        }
    }

    /** Each message has every later reason too; the first one alone is told. */
    private static void orderOfReasons() {
        Check.about("WHAT IS TAKEN.");
        int[] body = Items.row(0);
        Host.speaking().expectComplaint("the stream before the function", 3, 2, 3, 5, body);
        Host.speaking().expectComplaint("the function before control", 5, 2, 1, 5, body);
        Host.speaking().expect("control before the body", 1, 1, body, 0);
        Host.online(3).expectComplaint("the body", 7, 2, 1, 1, body);
        Host host = Host.speaking();
        int[] message = host.message(3, 5, host.nextSystem(), body);
        message[5] = 2;
        host.say(message);
        Check.messages("the block before the stream", host.hearAll(), Host.complaint(11, 2, message));
        message[1] = 2;
        host.say(message);
        Check.messages("the device before the block", host.hearAll(), Host.complaint(1, 3, message));
    }

    private static void areYouThere() {
        Check.about("1, 1 (no body): reply [TEXT \"FL\", TEXT \"1\"].");
        Host host = Host.online(2);
        host.expect("1, 1", 1, 1, Items.row(), 2, Items.list(Items.text("FL"), Items.text("1")));
        host.expectComplaint("with a body", 7, 2, 1, 1, Items.list());
    }

    private static void refusedOnesChangeNothing() {
        Check.about("message 9, 1 ... message 9, 11 ... 9, 3 ... 9, 5 ... the reply with function 0 and no body");
        int[] on = Items.list(Items.item(Items.BOOLEAN, 1), Items.list());
        Host host = Host.online(3);
        int[] request = host.message(2, 37, host.nextSystem(), on);
        int[] before = Shown.kept(host.link);
        for (int[] wrong : new int[][] {with(request, 1, 2), with(request, 5, 2), with(request, 2, 3), with(request, 3, 39)}) {
            host.say(wrong);
            host.skip(1);
        }
        Check.same("nothing is changed", Shown.kept(host.link), before);
        Host off = Host.speaking();
        before = Shown.kept(off.link);
        off.expect("offline", 2, 37, on, 0);
        Check.same("nothing is changed", Shown.kept(off.link), before);
    }
}
