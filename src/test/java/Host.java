import java.util.ArrayList;
import java.util.List;

/**
 * A host at the other end of the line: it knows the handshake, and nothing of the machine's state.
 * It sets up with few calls, as an object is promised for 512 alone.
 */
final class Host {
    static final int FREE = 0;
    static final int READING = 1;
    static final int OFFERING = 2;
    static final int WAITING = 3;

    final FabLink link = new FabLink();
    private int system = 100;

    /** Enabled, and its 1, 13 is gone without an answer: no talk is open any more. */
    static Host enabled() {
        Host host = new Host();
        host.link.enable(true);
        host.skip(1);
        host.say(host.message(1, 0, Items.row(0, 0, 0, 1)));
        return host;
    }

    static Host speaking() {
        Host host = enabled();
        host.tell(1, 13);
        Check.same("set up: speaking", host.link.look(1), 2);
        return host;
    }

    static Host online(int control) {
        Host host = speaking();
        host.link.control(control);
        Check.same("set up: nothing to be sent", host.link.look(5), 0);
        return host;
    }

    /** Remote; report 1 has variables 0 and 1, every event is linked with it and enabled. */
    static Host reporting() {
        Host host = online(3);
        host.tell(2, 33, Items.table(Items.entry(1, 0, 1)));
        host.tell(2, 35, Items.table(Items.entry(1, 1), Items.entry(2, 1), Items.entry(3, 1),
                Items.entry(4, 1), Items.entry(5, 1)));
        host.tell(2, 37, Items.list(Items.item(Items.BOOLEAN, 1), Items.list()));
        Check.same("set up: event 5", host.link.event(5), 11);
        return host;
    }

    /** So many messages 1, 13 more are to be sent; it is enabled then, and not speaking. */
    void fill(int messages) {
        for (int i = 0; i < messages; i++) {
            if (link.look(1) != 0) {
                link.enable(false);
            }
            link.enable(true);
        }
    }

    /** So many talks more are open; it is enabled then, and not speaking. */
    void openTalks(int talks) {
        for (int i = 0; i < talks; i++) {
            fill(1);
            skip(1);
        }
    }

    int[] nextSystem() {
        system++;
        return lastSystem();
    }

    int[] lastSystem() {
        return Items.row(7, 200, system >> 8 & 255, system & 255);
    }

    /** A message to the machine, with the stream byte as it is given. */
    int[] message(int streamByte, int function, int[] systemBytes, int[]... body) {
        return Items.join(Items.row(0, 1, streamByte, function, 128, 1), systemBytes, Items.join(body));
    }

    /** What the machine's answer with these bytes must be, whole. */
    int[] reply(int stream, int function, int[]... body) {
        return fromMachine(stream, function, lastSystem(), body);
    }

    static int[] own(int streamByte, int function, int number, int[]... body) {
        return fromMachine(streamByte, function, Items.row(0, 0, number >> 8, number & 255), body);
    }

    static int[] complaint(int function, int number, int[] message) {
        return own(9, function, number, Items.item(Items.BINARY, java.util.Arrays.copyOf(message, 10)));
    }

    private static int[] fromMachine(int streamByte, int function, int[] systemBytes, int[]... body) {
        return Items.join(Items.row(128, 1, streamByte, function, 128, 1), systemBytes, Items.join(body));
    }

    static int[] block(int[] message) {
        int sum = 0;
        for (int b : message) {
            sum += b;
        }
        return Items.join(Items.row(message.length), message, Items.row(sum >> 8 & 255, sum & 255));
    }

    /** Has the block of a message heard; what the last byte made the machine say. */
    int[] say(int[] message) {
        Check.same("5 is answered", link.hear(5), 1);
        int[] block = block(message);
        for (int i = 0; i + 1 < block.length; i++) {
            Check.same("a byte within a block", link.hear(block[i]), 0);
        }
        int count = link.hear(block[block.length - 1]);
        return lastSaid(count);
    }

    int[] lastSaid(int count) {
        int[] bytes = new int[count];
        int first = link.said() - count;
        for (int i = 0; i < count; i++) {
            bytes[i] = link.saidAt(first + i);
        }
        return bytes;
    }

    /** Says 4 to an offer, takes the block's message out, and says nothing of it yet. */
    int[] hearBlock() {
        Check.same("it is offering", link.look(0), OFFERING);
        int[] said = lastSaid(link.hear(4));
        int[] message = java.util.Arrays.copyOfRange(said, 1, said.length - 2);
        Check.same("the block", said, block(message));
        return message;
    }

    int[] hearMessage() {
        int[] message = hearBlock();
        link.hear(6);
        return message;
    }

    /** Has so many messages sent, and does not look at them. */
    void skip(int messages) {
        for (int i = 0; i < messages; i++) {
            link.hear(4);
            link.hear(6);
        }
    }

    List<int[]> hearAll() {
        List<int[]> messages = new ArrayList<>();
        while (link.look(0) == OFFERING && messages.size() < 100) {
            messages.add(hearMessage());
        }
        return messages;
    }

    /** A request that wants a reply; all that the machine sends for it. */
    List<int[]> ask(int stream, int function, int[]... body) {
        say(message(stream | 128, function, nextSystem(), body));
        return hearAll();
    }

    /** A request that wants no reply; all that the machine sends for it. */
    List<int[]> tell(int stream, int function, int[]... body) {
        say(message(stream, function, nextSystem(), body));
        return hearAll();
    }

    /** Asks, and checks that just this reply comes. */
    void expect(String what, int stream, int function, int[] body, int replyFunction, int[]... replyBody) {
        List<int[]> got = ask(stream, function, body);
        Check.messages(what, got, reply(stream, replyFunction, replyBody));
    }

    /** Asks, and checks that just the complaint 9, reason comes, with the number that is due next. */
    void expectComplaint(String what, int reason, int number, int stream, int function, int[]... body) {
        int[] message = message(stream | 128, function, nextSystem(), body);
        say(message);
        Check.messages(what, hearAll(), complaint(reason, number, message));
    }

    /** A command, and the byte that its reply must have; what events it sent besides. */
    List<int[]> command(String name, int due) {
        List<int[]> got = ask(2, 41, Items.list(Items.text(name), Items.list()));
        int[] last = got.isEmpty() ? Items.row() : got.remove(got.size() - 1);
        Check.same("command " + name, last, reply(2, 42, Items.list(Items.b(due), Items.list())));
        return got;
    }
}
