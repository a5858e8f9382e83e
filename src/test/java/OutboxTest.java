import java.util.Arrays;
import java.util.List;

/** Promises 2, 3 and 4: messages that are to be sent, eight at the most; their headers and numbers. */
public final class OutboxTest {
    public static void main(String[] args) {
        eightAndOneMore();
        theOneThatIsWaitedForCounts();
        behindThoseThatAre();
        aReplyAsTheNinth();
        aRefusalAsTheNinth();
        aComplaintAsTheNinth();
        anEventAsTheNinth();
        aTalksEndAsTheNinth();
        theWorksEndAsTheNinth();
        headers();
        replies();
        numbers();
        numbersOfLostOnes();
        numbersWithAHighByte();
        Check.end();
    }

    private static void eightAndOneMore() {
        Check.about("if there are 8, it is lost at once");
        Host host = new Host();
        for (int messages = 1; messages <= 8; messages++) {
            host.fill(1);
            Check.same("to be sent", host.link.look(5), messages);
            Check.same("none lost", host.link.look(7), 0);
        }
        for (int more = 1; more <= 3; more++) {
            host.fill(1);
            Check.same("eight", host.link.look(5), 8);
            Check.same("lost", host.link.look(7), more);
        }
        Check.same("one offer", host.link.said(), 1);
    }

    private static void theOneThatIsWaitedForCounts() {
        Check.about("if there are 8, it is lost at once");
        Host host = new Host();
        host.fill(8);
        host.link.hear(4);
        host.fill(1);
        Check.same("waiting: eight", host.link.look(5), 8);
        Check.same("one lost", host.link.look(7), 1);
        host.link.hear(6);
        Check.same("seven", host.link.look(5), 7);
        host.fill(1);
        Check.same("place for one", host.link.look(5), 8);
        Check.same("no other lost", host.link.look(7), 1);
        for (int i = 0; i < 4; i++) {
            host.link.hear(4);
            host.link.hear(21);
        }
        Check.same("one less after a loss", host.link.look(5), 7);
        Check.same("that one", host.link.look(7), 2);
        host.fill(1);
        Check.same("place for one again", host.link.look(5), 8);
    }

    private static void behindThoseThatAre() {
        Check.about("A MESSAGE that is to be sent comes behind those that are");
        Host host = new Host();
        host.fill(8);
        host.skip(5);
        host.fill(5);
        List<int[]> messages = host.hearAll();
        Check.same("eight", messages.size(), 8);
        for (int i = 0; i < messages.size(); i++) {
            Check.same("in their order", messages.get(i)[9], 6 + i);
        }
        Host reporting = Host.reporting();
        reporting.link.ring();
        reporting.link.control(2);
        reporting.link.ring();
        int[] values = Items.list(Items.n(3), Items.n(0));
        int[] later = Items.list(Items.n(2), Items.n(0));
        Check.messages("as they came", reporting.hearAll(),
                Host.own(134, 11, 2, EventTest.body(5, 1, values)),
                Host.own(134, 11, 3, EventTest.body(1, 1, later)),
                Host.own(134, 11, 4, EventTest.body(5, 1, later)));
    }

    /** It begins to read, has so many to be sent meanwhile, and then hears the rest of the block. */
    private static Host readWhileFull(int messages, int[] message) {
        Host host = new Host();
        host.link.hear(5);
        host.fill(messages);
        for (int b : Host.block(message)) {
            host.link.hear(b);
        }
        Check.same("6, then 5", host.lastSaid(2), Items.row(6, 5));
        Check.same("to be sent", host.link.look(5), 8);
        Check.same("lost", host.link.look(7), messages == 8 ? 1 : 0);
        return host;
    }

    private static void aReplyAsTheNinth() {
        Check.about("if there are 8, it is lost at once");
        int[] greeting = new Host().message(129, 13, Items.row(1, 2, 3, 4));
        Host eighth = readWhileFull(7, greeting);
        Check.same("speaking", eighth.link.look(1), 2);
        eighth.skip(7);
        Check.same("the reply is the eighth", eighth.hearMessage(),
                Items.join(Items.row(128, 1, 1, 14, 128, 1, 1, 2, 3, 4), Items.list(Items.b(0), Items.list())));
        Host ninth = readWhileFull(8, greeting);
        Check.same("speaking all the same", ninth.link.look(1), 2);
        ninth.skip(8);
        Check.same("nothing behind the eight", ninth.link.look(0), Host.FREE);
    }

    private static void aRefusalAsTheNinth() {
        Check.about("if there are 8, it is lost at once");
        Host host = Host.reporting();
        int[] request = host.message(129, 1, host.nextSystem());
        host.link.hear(5);
        for (int i = 0; i < 8; i++) {
            host.link.ring();
        }
        host.link.control(0);
        for (int b : Host.block(request)) {
            host.link.hear(b);
        }
        Check.same("the reply with function 0", host.link.look(7), 1);
        Check.same("eight", host.link.look(5), 8);
    }

    private static void aComplaintAsTheNinth() {
        Check.about("if there are 8, it is lost at once");
        int[] message = new Host().message(1, 13, Items.row(1, 2, 3, 4));
        message[1] = 2;
        Host eighth = readWhileFull(7, message);
        eighth.skip(7);
        Check.same("9, 1 is the eighth", eighth.hearMessage(), Host.complaint(1, 8, message));
        Host ninth = readWhileFull(8, message);
        ninth.skip(8);
        Check.same("nothing behind the eight", ninth.link.look(0), Host.FREE);
        ninth.fill(1);
        Check.same("it had number 9", ninth.hearMessage()[9], 10);
    }

    private static void anEventAsTheNinth() {
        Check.about("if there are 8, it is lost at once");
        Host host = Host.reporting();
        for (int i = 0; i < 8; i++) {
            Check.yes("ring", host.link.ring());
            Check.same("to be sent", host.link.look(5), i + 1);
        }
        Check.same("none lost", host.link.look(7), 0);
        host.link.control(2);
        Check.same("eight", host.link.look(5), 8);
        Check.same("event 1 is lost", host.link.look(7), 1);
        Check.same("control has changed", host.link.look(2), 2);
    }

    private static void aTalksEndAsTheNinth() {
        Check.about("if there are 8, it is lost at once");
        for (int messages : new int[] {7, 8}) {
            Host host = new Host();
            host.openTalks(1);
            host.link.tick(44);
            host.fill(messages);
            host.link.tick(1);
            Check.same("closed", host.link.look(6), 0);
            Check.same("to be sent", host.link.look(5), 8);
            Check.same("lost", host.link.look(7), messages == 8 ? 1 : 0);
        }
    }

    private static void theWorksEndAsTheNinth() {
        Check.about("if there are 8, it is lost at once");
        for (int messages : new int[] {7, 8}) {
            Host host = Host.reporting();
            host.command("START", 0);
            host.link.tick(29);
            for (int i = 0; i < messages; i++) {
                host.link.ring();
            }
            host.link.tick(1);
            Check.same("idle", host.link.look(3), 0);
            Check.same("to be sent", host.link.look(5), 8);
            Check.same("lost", host.link.look(7), messages == 8 ? 1 : 0);
        }
    }

    private static void headers() {
        Check.about("What the machine says has the device bytes 128, 1, and 128, 1 for the number");
        Host host = new Host();
        host.link.enable(true);
        int[] due = Items.row(128, 1, 129, 13, 128, 1, 0, 0, 0, 1, 1, 2, 65, 2, 'F', 'L', 65, 1, '1');
        Check.same("1, 13", host.hearBlock(), due);
        Check.same("its length and sum", host.lastSaid(22), Host.block(due));
        Host reporting = Host.reporting();
        reporting.link.ring();
        Check.same("6, 11", Arrays.copyOf(reporting.hearMessage(), 10),
                Items.row(128, 1, 134, 11, 128, 1, 0, 0, 0, 2));
        reporting.ask(3, 1);
        reporting.ask(1, 1);
        int[] message = reporting.message(131, 1, reporting.nextSystem());
        reporting.say(message);
        Check.same("9, 3 wants no reply", Arrays.copyOf(reporting.hearMessage(), 10),
                Items.row(128, 1, 9, 3, 128, 1, 0, 0, 0, 4));
    }

    private static void replies() {
        Check.about("a REPLY the stream and system bytes of what it replies to, and no reply is wanted");
        int[][] systems = {{255, 255, 255, 255}, {0, 0, 0, 0}, {128, 0, 0, 0}, {0, 128, 127, 1}, {1, 2, 3, 4}};
        for (int[] system : systems) {
            Host host = Host.speaking();
            host.say(host.message(129, 17, system));
            Check.messages("1, 18", host.hearAll(),
                    Items.join(Items.row(128, 1, 1, 18, 128, 1), system, Items.b(1)));
            host.say(host.message(130, 41, system));
            Check.messages("2, 0", host.hearAll(), Items.join(Items.row(128, 1, 2, 0, 128, 1), system));
            Check.same("a reply opens no talk", host.link.look(6), 0);
        }
    }

    private static void numbers() {
        Check.about("its other messages the system bytes 0, 0, and a number (1, 2, .. for each one");
        Host host = Host.online(3);
        host.ask(1, 1);
        host.expectComplaint("2, as replies have none", 3, 2, 5, 1);
        host.ask(1, 1);
        host.expectComplaint("3", 5, 3, 1, 5);
        host.link.enable(false);
        host.link.enable(true);
        Check.same("4", host.hearMessage()[9], 4);
        host.link.tick(45);
        Check.same("5, for 9, 9", host.hearMessage()[9], 5);
    }

    private static void numbersOfLostOnes() {
        Check.about("for each one, also one that is lost at once");
        Host host = new Host();
        host.fill(8);
        host.fill(2);
        host.skip(1);
        host.fill(1);
        host.skip(7);
        Check.same("9 and 10 were lost", host.hearMessage()[9], 11);
        Host reporting = Host.reporting();
        for (int i = 0; i < 9; i++) {
            Check.yes("ring", reporting.link.ring());
        }
        Check.same("one lost", reporting.link.look(7), 1);
        reporting.skip(8);
        reporting.link.ring();
        Check.same("10 was lost", reporting.hearMessage()[9], 11);
    }

    /**
     * "By 65536" can't be reached: a call makes nine messages with a number at the most (a unit in
     * which eight talks and the work end), so 512 calls make fewer than 5000.
     */
    private static void numbersWithAHighByte() {
        Check.about("also one that is lost at once; by 65536, high byte first");
        Host host = Host.reporting();
        for (int number = 2; number <= 254; number++) {
            host.link.ring();
        }
        host.skip(3);
        for (int number = 255; number <= 257; number++) {
            host.link.ring();
        }
        host.skip(5);
        for (int number = 255; number <= 257; number++) {
            int start = host.link.said();
            host.link.hear(4);
            Check.same("high byte of " + number, host.link.saidAt(start + 9), number >> 8);
            Check.same("low byte of " + number, host.link.saidAt(start + 10), number & 255);
            host.link.hear(6);
        }
    }
}
