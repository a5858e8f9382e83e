/** Promise 4: enabled, disabled and speaking; and the messages by which speaking begins. */
public final class SpeakingTest {
    public static void main(String[] args) {
        itIsSoAlready();
        enableSendsEachTime();
        notSpeakingYet();
        disabledAndNotSpeaking();
        disableKeepsTheRest();
        speakingByReply();
        repliesThatAreNone();
        repliesToOtherTalks();
        repliesWithFunctionZero();
        bodiesThatDoNotMakeItSpeak();
        greetedByTheHost();
        Check.end();
    }

    private static int[] accepted() {
        return Items.list(Items.b(0), Items.list());
    }

    private static Host greeting() {
        Host host = new Host();
        host.link.enable(true);
        host.hearAll();
        Check.same("a talk is open", host.link.look(6), 1);
        return host;
    }

    private static void itIsSoAlready() {
        Check.about("IllegalStateException: it is so already.");
        FabLink link = new FabLink();
        Check.refuses("disabled already", IllegalStateException.class, () -> link.enable(false));
        Check.same("nothing to be sent", link.look(5), 0);
        link.enable(true);
        Check.same("enabled", link.look(1), 1);
        Check.refuses("enabled already", IllegalStateException.class, () -> link.enable(true));
        Check.same("one message alone", link.look(5), 1);
        link.enable(false);
        Check.same("disabled", link.look(1), 0);
        Check.refuses("disabled again already", IllegalStateException.class, () -> link.enable(false));
        Host speaking = Host.speaking();
        Check.refuses("speaking", IllegalStateException.class, () -> speaking.link.enable(true));
        Check.same("speaking still", speaking.link.look(1), 2);
    }

    private static void enableSendsEachTime() {
        Check.about("and message 1, 13 is to be sent, a reply wanted, its body [TEXT \"FL\", TEXT \"1\"]");
        Host host = new Host();
        for (int number = 1; number <= 3; number++) {
            host.link.enable(true);
            Check.messages("1, 13", host.hearAll(),
                    Host.own(129, 13, number, Items.list(Items.text("FL"), Items.text("1"))));
            Check.same("a talk for each", host.link.look(6), number);
            host.link.enable(false);
            Check.same("nothing for disabling", host.link.look(5), 0);
        }
    }

    private static void notSpeakingYet() {
        Check.about("The machine is enabled, not speaking yet");
        FabLink link = new FabLink();
        link.enable(true);
        Check.same("enabled", link.look(1), 1);
        Host host = Host.speaking();
        host.link.enable(false);
        host.link.enable(true);
        Check.same("enabled again, not speaking yet", host.link.look(1), 1);
        Host reporting = Host.reporting();
        reporting.link.enable(false);
        reporting.link.enable(true);
        Check.no("nothing is told", reporting.link.ring());
        reporting.skip(1);
        reporting.tell(1, 13);
        Check.yes("speaking: it is told", reporting.link.ring());
    }

    private static void disabledAndNotSpeaking() {
        Check.about("or it is disabled and not speaking");
        Host host = Host.speaking();
        int said = host.link.said();
        host.link.enable(false);
        Check.same("disabled", host.link.look(1), 0);
        Check.same("nothing to be sent for it", host.link.look(5), 0);
        Check.same("nothing said", host.link.said(), said);
        Host reporting = Host.reporting();
        reporting.link.enable(false);
        Check.no("nothing is told", reporting.link.ring());
    }

    private static void disableKeepsTheRest() {
        Check.about("(What is to be sent, talks and the line stay as they are.)");
        Host host = new Host();
        host.fill(3);
        host.skip(1);
        host.link.hear(4);
        host.link.enable(false);
        Check.same("waiting", host.link.look(0), Host.WAITING);
        Check.same("to be sent", host.link.look(5), 2);
        Check.same("talks", host.link.look(6), 1);
        Check.same("none lost", host.link.look(7), 0);
        Check.same("the next is offered", host.link.hear(6), 1);
        Check.same("a talk is open for it", host.link.look(6), 2);
        host.link.enable(true);
        Check.same("one more to be sent", host.link.look(5), 2);
        Check.same("offering", host.link.look(0), Host.OFFERING);
        host.link.tick(4);
        host.link.enable(false);
        Check.same("its time goes on", host.link.tick(1), 1);
        Host reading = new Host();
        reading.link.hear(5);
        reading.link.hear(10);
        reading.link.tick(1);
        reading.link.enable(true);
        Check.same("reading", reading.link.look(0), Host.READING);
        Check.same("its time goes on", reading.link.tick(1), 2);
        Host reporting = Host.reporting();
        int[] before = Shown.kept(reporting.link);
        before[0] = 0;
        reporting.link.enable(false);
        Check.same("all else too", Shown.kept(reporting.link), before);
    }

    private static void speakingByReply() {
        Check.about("if it was 1, 13 and this one is 1, 14 with a body that is a list whose first item is B 0, "
                + "the machine is SPEAKING");
        for (int[] body : new int[][] {
            accepted(),
            Items.list(Items.b(0)),
            Items.wideList(3, Items.wide(2, Items.BINARY, 0)),
            Items.list(Items.b(0), Items.b(1), Items.nested(5, Items.n(1))),
        }) {
            for (int streamByte : new int[] {1, 129}) {
                Host host = greeting();
                Check.same("no reply to a reply",
                        host.say(host.message(streamByte, 14, Items.row(0, 0, 0, 1), body)), Items.row(6));
                Check.same("speaking", host.link.look(1), 2);
                Check.same("the talk is closed", host.link.look(6), 0);
            }
        }
        Host late = greeting();
        late.link.enable(false);
        late.say(late.message(1, 14, Items.row(0, 0, 0, 1), accepted()));
        Check.same("disabled: nothing", late.link.look(1), 0);
        Check.same("the talk is open", late.link.look(6), 1);
        late.link.enable(true);
        late.skip(1);
        late.say(late.message(1, 14, Items.row(0, 0, 0, 1), accepted()));
        Check.same("an older talk's is one too", late.link.look(1), 2);
        Check.same("the other talk is open", late.link.look(6), 1);
    }

    private static void repliesThatAreNone() {
        Check.about("An even function: if a talk is open whose stream is the same, whose system bytes are, "
                + "and whose function is one less than this one (or this one is 0), it is closed");
        int[][] wrong = {
            {1, 14, 0, 0, 0, 2}, {1, 14, 0, 0, 0, 0}, {1, 14, 0, 0, 1, 1}, {1, 14, 0, 1, 0, 1}, {1, 14, 1, 0, 0, 1},
            {1, 14, 128, 0, 0, 1}, {2, 14, 0, 0, 0, 1}, {0, 14, 0, 0, 0, 1}, {65, 14, 0, 0, 0, 1},
            {1, 12, 0, 0, 0, 1}, {1, 16, 0, 0, 0, 1}, {1, 2, 0, 0, 0, 1}, {1, 254, 0, 0, 0, 1},
            {6, 0, 0, 0, 0, 1}, {2, 0, 0, 0, 0, 1}, {1, 0, 0, 0, 0, 2}, {1, 0, 1, 0, 0, 1},
        };
        for (int[] w : wrong) {
            Host host = greeting();
            Check.same("no reply to it",
                    host.say(host.message(w[0], w[1], Items.row(w[2], w[3], w[4], w[5]), accepted())), Items.row(6));
            Check.same("the talk is open", host.link.look(6), 1);
            Check.same("not speaking", host.link.look(1), 1);
        }
        Host host = greeting();
        host.say(host.message(1, 14, Items.row(0, 0, 0, 1), Items.b(1)));
        Check.same("one is", host.link.look(6), 0);
        host.say(host.message(1, 14, Items.row(0, 0, 0, 1), accepted()));
        Check.same("it was closed", host.link.look(1), 1);
    }

    private static void repliesToOtherTalks() {
        Check.about("if it was 1, 13 and this one is 1, 14");
        Host host = Host.reporting();
        host.link.ring();
        host.skip(1);
        host.link.enable(false);
        host.link.enable(true);
        host.skip(1);
        Check.same("two talks", host.link.look(6), 2);
        host.say(host.message(6, 12, Items.row(0, 0, 0, 2), accepted()));
        Check.same("6, 12 closes one", host.link.look(6), 1);
        Check.same("and does not make it speak", host.link.look(1), 1);
        host.say(host.message(1, 14, Items.row(0, 0, 0, 2), accepted()));
        Check.same("1, 14 to no talk does not", host.link.look(1), 1);
        host.say(host.message(1, 14, Items.row(0, 0, 0, 3), accepted()));
        Check.same("1, 14 to 1, 13 does", host.link.look(1), 2);
    }

    private static void repliesWithFunctionZero() {
        Check.about("(or this one is 0)");
        Host host = greeting();
        Check.same("no reply to it", host.say(host.message(1, 0, Items.row(0, 0, 0, 1), accepted())), Items.row(6));
        Check.same("it is closed", host.link.look(6), 0);
        Check.same("not speaking", host.link.look(1), 1);
    }

    private static void bodiesThatDoNotMakeItSpeak() {
        Check.about("a body that is a list whose first item is B 0");
        int[][] bodies = {
            Items.row(), Items.list(), Items.b(0), Items.list(Items.b(1), Items.list()), Items.list(Items.b(255)),
            Items.list(Items.n(0)), Items.list(Items.item(Items.BOOLEAN, 0)), Items.list(Items.text("\0")),
            Items.list(Items.item(Items.BINARY)), Items.list(Items.item(Items.BINARY, 0, 0)),
            Items.list(Items.list(Items.b(0))), Items.list(Items.list(), Items.b(0)),
            Items.join(accepted(), Items.row(0)), Items.row(1, 2, 33, 1, 0),
        };
        for (int[] body : bodies) {
            Host host = greeting();
            Check.same("1, 14", host.say(host.message(1, 14, Items.row(0, 0, 0, 1), body)), Items.row(6));
            Check.same("not speaking", host.link.look(1), 1);
            Check.same("the talk is closed", host.link.look(6), 0);
        }
    }

    private static void greetedByTheHost() {
        Check.about("1, 13 (whatever its body): the machine is speaking; reply [B 0, []].");
        for (int[] body : new int[][] {
            Items.row(), Items.list(), Items.row(0), Items.row(1, 9, 9), Items.b(1), Items.zeros(119), Items.zeros(120),
        }) {
            Host host = greeting();
            host.expect("1, 13", 1, 13, body, 14, accepted());
            Check.same("speaking", host.link.look(1), 2);
            Check.same("its own talk is open", host.link.look(6), 1);
        }
        Host again = Host.speaking();
        again.expect("when it is speaking", 1, 13, Items.row(), 14, accepted());
        Check.same("speaking still", again.link.look(1), 2);
    }
}
