/** Promise 4: enabled, disabled and speaking; and the replies by which speaking begins. */
public final class SpeakingTest {
    public static void main(String[] args) {
        enableTwice();
        enableSendsEachTime();
        disableKeepsTheRest();
        speakingByReply();
        repliesThatAreNone();
        bodiesThatDoNotMakeItSpeak();
        greetedByTheHost();
        Check.end();
    }

    private static int[] accepted() {
        return Items.list(Items.b(0), Items.list());
    }

    private static Host greeting() {
        Host host = new Host();
        host.link.enable(true);
        host.hearAll();
        Check.same("a talk is open", host.link.look(6), 1);
        return host;
    }

    private static void enableTwice() {
        FabLink link = new FabLink();
        Check.refuses("disabled already", IllegalStateException.class, () -> link.enable(false));
        link.enable(true);
        Check.same("enabled", link.look(1), 1);
        Check.refuses("enabled already", IllegalStateException.class, () -> link.enable(true));
        Check.same("one message alone", link.look(5), 1);
        link.enable(false);
        Check.same("disabled", link.look(1), 0);
        Check.refuses("disabled again already", IllegalStateException.class, () -> link.enable(false));
    }

    private static void enableSendsEachTime() {
        Host host = new Host();
        for (int i = 0; i < 9; i++) {
            host.link.enable(true);
            host.link.enable(false);
        }
        Check.same("eight are to be sent", host.link.look(5), 8);
        Check.same("one is lost", host.link.look(7), 1);
        Check.same("one offer", host.link.said(), 1);
        host.hearMessage();
        host.link.enable(true);
        int[] last = Items.row();
        for (int[] message : host.hearAll()) {
            last = message;
        }
        Check.same("the tenth", last, Host.own(129, 13, 10, Items.list(Items.text("FL"), Items.text("1"))));
    }

    private static void disableKeepsTheRest() {
        Host host = Host.reporting();
        host.link.ring();
        host.link.ring();
        host.hearMessage();
        host.hearBlock();
        host.link.enable(false);
        Check.same("waiting", host.link.look(0), Host.WAITING);
        Check.same("to be sent", host.link.look(5), 1);
        Check.same("talks", host.link.look(6), 1);
        Check.same("control", host.link.look(2), 3);
        Check.same("disabled", host.link.look(1), 0);
        Check.same("event", host.link.event(5), 11);
        host.link.hear(6);
        Check.same("a talk is open for it", host.link.look(6), 2);
        host.link.enable(true);
        Check.same("not speaking yet", host.link.look(1), 1);
        Check.no("nothing is told", host.link.ring());
    }

    private static void speakingByReply() {
        Host host = greeting();
        Check.same("1, 14", host.say(host.message(1, 14, Items.row(0, 0, 0, 1), accepted())), Items.row(6));
        Check.same("speaking", host.link.look(1), 2);
        Check.same("the talk is closed", host.link.look(6), 0);
        for (int[] body : new int[][] {
            Items.list(Items.b(0)),
            Items.wideList(3, Items.wide(2, Items.BINARY, 0)),
            Items.list(Items.b(0), Items.b(1), Items.nested(5, Items.n(1))),
        }) {
            Host other = greeting();
            Check.same("no reply to a reply",
                    other.say(other.message(129, 14, Items.row(0, 0, 0, 1), body)), Items.row(6));
            Check.same("speaking", other.link.look(1), 2);
            Check.same("the talk is closed", other.link.look(6), 0);
        }
        Host late = greeting();
        late.link.enable(false);
        late.say(late.message(1, 14, Items.row(0, 0, 0, 1), accepted()));
        Check.same("disabled: nothing", late.link.look(1), 0);
        Check.same("the talk is open", late.link.look(6), 1);
    }

    private static void repliesThatAreNone() {
        int[][] wrong = {
            {1, 14, 0, 0, 0, 2}, {1, 14, 0, 0, 1, 1}, {1, 14, 0, 1, 0, 1}, {1, 14, 1, 0, 0, 1},
            {2, 14, 0, 0, 0, 1}, {1, 12, 0, 0, 0, 1}, {1, 16, 0, 0, 0, 1}, {6, 0, 0, 0, 0, 1}, {1, 0, 0, 0, 0, 2},
        };
        Host host = greeting();
        for (int[] w : wrong) {
            Check.same("no reply to it",
                    host.say(host.message(w[0], w[1], Items.row(w[2], w[3], w[4], w[5]), accepted())), Items.row(6));
            Check.same("the talk is open", host.link.look(6), 1);
            Check.same("not speaking", host.link.look(1), 1);
        }
        host.say(host.message(1, 0, Items.row(0, 0, 0, 1), accepted()));
        Check.same("function 0 closes it", host.link.look(6), 0);
        Check.same("not speaking", host.link.look(1), 1);
        host.say(host.message(1, 14, Items.row(0, 0, 0, 1), accepted()));
        Check.same("it was closed", host.link.look(1), 1);
    }

    private static void bodiesThatDoNotMakeItSpeak() {
        int[][] bodies = {
            Items.row(), Items.list(), Items.b(0), Items.list(Items.b(1), Items.list()), Items.list(Items.n(0)),
            Items.list(Items.item(Items.BINARY)), Items.list(Items.item(Items.BINARY, 0, 0)),
            Items.list(Items.list(Items.b(0))), Items.list(Items.list(), Items.b(0)),
            Items.join(accepted(), Items.row(0)), Items.row(1, 2, 33, 1, 0),
        };
        for (int[] body : bodies) {
            Host host = greeting();
            Check.same("1, 14", host.say(host.message(1, 14, Items.row(0, 0, 0, 1), body)), Items.row(6));
            Check.same("not speaking", host.link.look(1), 1);
            Check.same("the talk is closed", host.link.look(6), 0);
        }
    }

    private static void greetedByTheHost() {
        for (int[] body : new int[][] {Items.row(), Items.list(), Items.row(0), Items.row(1, 9, 9), Items.zeros(120)}) {
            Host host = greeting();
            host.expect("1, 13", 1, 13, body, 14, accepted());
            Check.same("speaking", host.link.look(1), 2);
            Check.same("its own talk is open", host.link.look(6), 1);
        }
    }
}
