/** Promise 2, THE LINE: what it hears while it offers and waits, failures, losses, and when it offers. */
public final class SendingTest {
    private static final int WAYS = 3;

    public static void main(String[] args) {
        handshake();
        offeringHears();
        theFirstMessage();
        waitingHears();
        talksAreOpened();
        noMoreThanEightTalks();
        thirdAndFourthFailure();
        failuresOfEachMessage();
        failuresOfOldOnesAreForgotten();
        afterALoss();
        offersAtTheEndOfEveryCall();
        offersOnlyWhenFree();
        bytesSaidByOneHeard();
        Check.end();
    }

    private static void handshake() {
        Check.about("waiting: 6: that message was sent, and is not to be sent any more; it is free");
        FabLink link = new FabLink();
        link.enable(true);
        Check.same("offering", link.look(0), Host.OFFERING);
        Check.same("said", link.said(), 1);
        Check.same("5", link.saidAt(0), 5);
        Check.same("to be sent", link.look(5), 1);
        Check.same("4 makes it say the block", link.hear(4), 22);
        Check.same("waiting", link.look(0), Host.WAITING);
        Check.same("still to be sent", link.look(5), 1);
        Check.same("no talk yet", link.look(6), 0);
        Check.same("6", link.hear(6), 0);
        Check.same("free", link.look(0), Host.FREE);
        Check.same("sent", link.look(5), 0);
        Check.same("a talk", link.look(6), 1);
        Check.same("said in all", link.said(), 23);
        Check.same("none lost", link.look(7), 0);
    }

    private static Host offering() {
        Host host = new Host();
        host.link.enable(true);
        return host;
    }

    private static Host waiting() {
        Host host = offering();
        host.link.hear(4);
        return host;
    }

    private static void offeringHears() {
        Check.about("offering: 4: it says the block of the first message that is to be sent, and is waiting. "
                + "Any other byte: nothing.");
        for (int b = 0; b <= 255; b++) {
            Host host = offering();
            Check.same("offering hears " + b, host.link.hear(b), b == 4 ? 22 : 0);
            Check.same("then it is", host.link.look(0), b == 4 ? Host.WAITING : Host.OFFERING);
            Check.same("to be sent", host.link.look(5), 1);
            Check.same("said", host.link.said(), b == 4 ? 23 : 1);
        }
        Host host = offering();
        for (int b = 0; b <= 255; b++) {
            if (b != 4) {
                host.link.hear(b);
            }
        }
        Check.same("no failure was counted", host.link.tick(15), 3);
        Check.same("none lost", host.link.look(7), 0);
    }

    private static void theFirstMessage() {
        Check.about("it says the block of the first message that is to be sent");
        Host host = new Host();
        host.fill(2);
        int[] first = Host.own(129, 13, 1, Items.list(Items.text("FL"), Items.text("1")));
        int[] second = Host.own(129, 13, 2, Items.list(Items.text("FL"), Items.text("1")));
        Check.same("the first", host.hearBlock(), first);
        Check.same("length, bytes and sum", host.lastSaid(22), Host.block(first));
        host.link.hear(21);
        Check.same("the first again", host.hearBlock(), first);
        host.link.hear(6);
        Check.same("the second", host.hearBlock(), second);
    }

    private static void waitingHears() {
        Check.about("Any other byte: it was a FAILURE.");
        for (int b = 0; b <= 255; b++) {
            Host host = waiting();
            boolean sent = b == 6;
            Check.same("waiting hears " + b, host.link.hear(b), sent ? 0 : 1);
            Check.same("then it is", host.link.look(0), sent ? Host.FREE : Host.OFFERING);
            Check.same("to be sent", host.link.look(5), sent ? 0 : 1);
            Check.same("talks", host.link.look(6), sent ? 1 : 0);
            Check.same("none lost", host.link.look(7), 0);
        }
        Host host = waiting();
        host.link.hear(5);
        Check.same("5 is no offer to a machine that waits", host.lastSaid(1), Items.row(5));
        Check.same("the whole block again", host.link.hear(4), 22);
    }

    private static void talksAreOpened() {
        Check.about("if the message wants a reply, a TALK is open for it");
        Host host = Host.enabled();
        Check.same("its 1, 13 was answered", host.link.look(6), 0);
        host.ask(1, 13);
        Check.same("none for a reply", host.link.look(6), 0);
        host.ask(3, 1);
        Check.same("none for 9, 3", host.link.look(6), 0);
        host.openTalks(1);
        Check.same("one for 1, 13", host.link.look(6), 1);
        Host ringing = Host.reporting();
        ringing.link.ring();
        Check.same("none before it is sent", ringing.link.look(6), 0);
        ringing.skip(1);
        Check.same("one for 6, 11", ringing.link.look(6), 1);
    }

    private static void noMoreThanEightTalks() {
        Check.about("(not if 8 are open)");
        Host host = new Host();
        for (int talks = 1; talks <= 8; talks++) {
            host.openTalks(1);
            Check.same("talks", host.link.look(6), talks);
        }
        host.openTalks(1);
        Check.same("no ninth", host.link.look(6), 8);
        Check.same("sent all the same", host.link.look(5), 0);
        Check.same("not lost", host.link.look(7), 0);
        Check.same("free", host.link.look(0), Host.FREE);
        host.say(host.message(1, 0, Items.row(0, 0, 0, 9)));
        Check.same("no talk for the ninth", host.link.look(6), 8);
        host.say(host.message(1, 0, Items.row(0, 0, 0, 8)));
        Check.same("the eighth", host.link.look(6), 7);
        host.openTalks(1);
        Check.same("place for one again", host.link.look(6), 8);
        host.say(host.message(1, 0, Items.row(0, 0, 0, 10)));
        Check.same("it was for the tenth", host.link.look(6), 7);
    }

    /** Fails while it offers, while it waits, or by a byte that is not 6. */
    private static void fail(FabLink link, int way) {
        if (way > 0) {
            link.hear(4);
        }
        if (way == 2) {
            link.hear(21);
        } else {
            link.tick(5);
        }
    }

    private static void thirdAndFourthFailure() {
        Check.about("A failure: the machine is free; a message that has had four is LOST, and not to be sent any more.");
        for (int ways = 0; ways < WAYS * WAYS * WAYS * WAYS; ways++) {
            FabLink link = new FabLink();
            link.enable(true);
            int left = ways;
            for (int failure = 1; failure <= 4; failure++) {
                fail(link, left % WAYS);
                left /= WAYS;
                boolean lost = failure == 4;
                Check.same("lost after " + failure, link.look(7), lost ? 1 : 0);
                Check.same("to be sent after " + failure, link.look(5), lost ? 0 : 1);
                Check.same("the line after " + failure, link.look(0), lost ? Host.FREE : Host.OFFERING);
            }
            Check.same("no talk", link.look(6), 0);
        }
    }

    private static void failuresOfEachMessage() {
        Check.about("a message that has had four is LOST");
        Host host = new Host();
        host.fill(2);
        for (int i = 0; i < 3; i++) {
            fail(host.link, 2);
        }
        host.skip(1);
        Check.same("the first was sent after three", host.link.look(6), 1);
        for (int i = 0; i < 3; i++) {
            fail(host.link, 2);
        }
        Check.same("the second has three of its own", host.link.look(7), 0);
        host.fill(1);
        fail(host.link, 2);
        Check.same("its fourth", host.link.look(7), 1);
        for (int i = 0; i < 3; i++) {
            fail(host.link, 0);
        }
        Check.same("the third came behind it, and has three", host.link.look(7), 1);
        fail(host.link, 0);
        Check.same("its fourth", host.link.look(7), 2);
    }

    /** Each of many messages fails three times, and none is lost. */
    private static void failuresOfOldOnesAreForgotten() {
        Check.about("a message that has had four is LOST");
        FabLink link = new FabLink();
        for (int i = 0; i < 20; i++) {
            link.enable(true);
            Check.same("three failures", link.tick(15), 3);
            link.hear(4);
            link.hear(6);
            Check.same("sent", link.look(5), 0);
            link.enable(false);
            link.tick(45);
            link.hear(4);
            link.hear(6);
        }
        Check.same("none lost", link.look(7), 0);
    }

    private static void afterALoss() {
        Check.about("LOST, and not to be sent any more");
        Host host = new Host();
        host.fill(2);
        Check.same("three failures", host.link.tick(15), 3);
        Check.same("the fourth, and the next is offered", host.link.tick(5), 1);
        Check.same("one lost", host.link.look(7), 1);
        Check.same("one to be sent", host.link.look(5), 1);
        Check.same("the second", host.hearMessage()[9], 2);
        Check.same("nothing more", host.link.look(0), Host.FREE);
        Check.same("a talk for it alone", host.link.look(6), 1);
    }

    private static void offersAtTheEndOfEveryCall() {
        Check.about("At the end of every call (and of each unit of a tick): "
                + "if it is free and a message is to be sent, it says 5, and is offering.");
        Host host = offering();
        Check.same("enable", host.lastSaid(1), Items.row(5));
        host.fill(1);
        host.link.hear(4);
        Check.same("hear 6", host.link.hear(6), 1);
        Check.same("5", host.lastSaid(1), Items.row(5));
        host.link.hear(4);
        Check.same("hear another", host.link.hear(7), 1);
        Check.same("5", host.lastSaid(1), Items.row(5));
        Check.same("a unit", host.link.tick(5), 1);
        Check.same("5", host.lastSaid(1), Items.row(5));
        Host reporting = Host.reporting();
        int said = reporting.link.said();
        reporting.link.ring();
        Check.same("ring", reporting.link.said(), said + 1);
        Check.same("offering", reporting.link.look(0), Host.OFFERING);
        reporting.skip(1);
        said = reporting.link.said();
        reporting.link.control(2);
        Check.same("control", reporting.link.said(), said + 1);
        Check.same("offering", reporting.link.look(0), Host.OFFERING);
        Host read = Host.enabled();
        Check.same("6, then 5", read.say(read.message(129, 13, read.nextSystem())), Items.row(6, 5));
    }

    private static void offersOnlyWhenFree() {
        Check.about("if it is free and a message is to be sent, it says 5");
        Host reading = new Host();
        reading.link.hear(5);
        reading.link.enable(true);
        Check.same("not while reading", reading.link.said(), 1);
        Check.same("reading", reading.link.look(0), Host.READING);
        Check.same("a wrong length", reading.link.hear(9), 2);
        Check.same("21, then 5", reading.lastSaid(2), Items.row(21, 5));
        reading.fill(1);
        Check.same("not while offering", reading.link.said(), 3);
        reading.link.hear(4);
        reading.fill(1);
        Check.same("not while waiting", reading.link.said(), 25);
        Check.same("waiting", reading.link.look(0), Host.WAITING);
        Host silent = new Host();
        silent.link.hear(5);
        silent.link.enable(true);
        Check.same("silence", silent.link.tick(5), 2);
        Check.same("21, then 5", silent.lastSaid(2), Items.row(21, 5));
        Check.same("offering", silent.link.look(0), Host.OFFERING);
        Host none = new Host();
        none.link.hear(5);
        Check.same("none to be sent", none.link.hear(9), 1);
        Check.same("free", none.link.look(0), Host.FREE);
    }

    private static void bytesSaidByOneHeard() {
        Check.about("how many bytes were said by that (also by what is told of the end of a call)");
        Host host = new Host();
        Check.same("nothing", host.link.hear(0), 0);
        Check.same("4", host.link.hear(5), 1);
        Check.same("21", host.link.hear(9), 1);
        host.link.hear(5);
        host.fill(2);
        Check.same("21 and 5", host.link.hear(131), 2);
        Check.same("a block of 19 bytes", host.link.hear(4), 22);
        Check.same("5 for the next", host.link.hear(6), 1);
        host.link.hear(4);
        Check.same("nothing behind the last", host.link.hear(6), 0);
        Host speaking = Host.speaking();
        speaking.say(speaking.message(129, 17, speaking.nextSystem()));
        Check.same("a block of 13 bytes", speaking.link.hear(4), 16);
        speaking.link.hear(6);
        speaking.say(speaking.message(129, 15, speaking.nextSystem()));
        Check.same("a block of 10 bytes", speaking.link.hear(4), 13);
        speaking.link.hear(6);
        int said = speaking.link.said();
        speaking.link.hear(5);
        Check.same("as many as said tells", speaking.link.said(), said + 1);
    }
}
