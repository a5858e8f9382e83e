/** 2, 41 and promise 3: commands, work and its time, and events 2, 3 and 4. */
public final class WorkTest {
    private static final String[] NAMES = {"START", "STOP", "PAUSE", "GO"};

    public static void main(String[] args) {
        atFirst();
        commands();
        repliesToCommands();
        unknownOnes();
        onlyRemote();
        startBeginsTheTime();
        stopAtEachTime();
        timeOfWork();
        timeWhilePaused();
        eventsOfCommands();
        eventOfEachCommand();
        eventsOfRefusedCommands();
        eventOfTime();
        fullOutbox();
        Check.end();
    }

    private static Host at(int work) {
        Host host = Host.online(3);
        if (work >= 1) {
            host.command("START", 0);
        }
        if (work == 2) {
            host.command("PAUSE", 0);
        }
        Check.same("work", host.link.look(3), work);
        return host;
    }

    private static void atFirst() {
        Check.about("WORK is 0 idle, 1 running, 2 paused, at first 0");
        Check.same("a new object", new FabLink().look(3), 0);
        for (int work = 0; work <= 2; work++) {
            Host host = at(work);
            Check.same("variable 1", host.link.octet(1, 0), work);
            Check.same("its format", host.link.format(1), 41);
        }
    }

    private static void commands() {
        Check.about("2 if ... work is not as it must be: START when 0: work is 1 ... STOP when 1 or 2: work is 0 ... "
                + "PAUSE when 1: work is 2 ... GO when 2: work is 1. Then x is 0.");
        int[][] next = {{1, -1, -1, -1}, {-1, 0, 2, -1}, {-1, 0, -1, 1}};
        for (int work = 0; work <= 2; work++) {
            for (int i = 0; i < NAMES.length; i++) {
                Host host = at(work);
                int[] before = Shown.kept(host.link);
                boolean may = next[work][i] >= 0;
                host.command(NAMES[i], may ? 0 : 2);
                Check.same("work after " + NAMES[i], host.link.look(3), may ? next[work][i] : work);
                Check.same("variable 1", host.link.octet(1, 0), host.link.look(3));
                if (!may) {
                    Check.same("nothing is changed", Shown.kept(host.link), before);
                }
            }
        }
    }

    private static void repliesToCommands() {
        Check.about("2, 41 with [TEXT, list]: a command; reply [B x, []]");
        Host host = Host.online(3);
        String[] names = {"FLY", "START", "START", "PAUSE", "GO", "STOP", "STOP"};
        int[] due = {1, 0, 2, 0, 0, 0, 2};
        for (int i = 0; i < names.length; i++) {
            Check.messages(names[i], host.ask(2, 41, Items.list(Items.text(names[i]), Items.list())),
                    host.reply(2, 42, Items.row(1, 2, 33, 1, due[i], 1, 0)));
        }
    }

    private static void unknownOnes() {
        Check.about("x 1 if it is none of START, STOP, PAUSE, GO");
        String[] names = {"", "X", "start", "STAR", "STARTS", "STOPP", "STO", "PAUS", "GO ", " GO", "G", "GOO", "PAUSED",
            "STAXT", "XTART", "XTOP", "XAUSE", "XO", "GX", "STOX", "PAUSX", "STARX", "START\0", "STOP, GO"};
        for (String name : names) {
            for (int work = 0; work <= 1; work++) {
                Host host = at(work);
                host.command(name, 1);
                Check.same("work", host.link.look(3), work);
            }
        }
    }

    private static void onlyRemote() {
        Check.about("otherwise 2 if control is not 3");
        for (int work = 0; work <= 2; work++) {
            for (String name : NAMES) {
                Host host = at(work);
                host.link.control(2);
                host.command(name, 2);
                Check.same("work", host.link.look(3), work);
            }
        }
        Host host = Host.online(2);
        host.command("FLY", 1);
        host.link.control(3);
        host.command("START", 0);
    }

    private static void startBeginsTheTime() {
        Check.about("START when 0: work is 1, its time 0; event 2");
        Host host = at(1);
        Check.same("at first", host.link.look(4), 0);
        host.link.tick(29);
        host.command("STOP", 0);
        host.command("START", 0);
        Check.same("from 0 again after 29", host.link.look(4), 0);
        host.link.tick(30);
        host.command("START", 0);
        Check.same("from 0 again after 30", host.link.look(4), 0);
        host.link.tick(29);
        Check.same("running", host.link.look(3), 1);
        host.link.tick(1);
        Check.same("idle", host.link.look(3), 0);
    }

    private static void stopAtEachTime() {
        Check.about("STOP when 1 or 2: work is 0; event 3.");
        for (int time : new int[] {0, 1, 28, 29}) {
            Host host = at(1);
            if (time > 0) {
                host.link.tick(time);
            }
            host.command("STOP", 0);
            Check.same("idle", host.link.look(3), 0);
            Check.same("its time stays", host.link.look(4), time);
            host.link.tick(60);
            Check.same("it stays", host.link.look(4), time);
        }
    }

    private static void timeOfWork() {
        Check.about("in each unit of time in which it is running its time grows by 1, when that is 30, work is 0");
        Host host = Host.online(3);
        host.link.tick(7);
        Check.same("idle: none", host.link.look(4), 0);
        host.command("START", 0);
        for (int unit = 1; unit <= 29; unit++) {
            host.link.tick(1);
            Check.same("its time", host.link.look(4), unit);
            Check.same("running", host.link.look(3), 1);
        }
        host.link.tick(1);
        Check.same("30", host.link.look(4), 30);
        Check.same("idle", host.link.look(3), 0);
        Check.same("variable 1", host.link.octet(1, 0), 0);
        host.link.tick(5);
        Check.same("it grows no more", host.link.look(4), 30);
        for (int units : new int[] {29, 30, 31, 60}) {
            Host once = at(1);
            once.link.tick(units);
            Check.same(units + " in one call", once.link.look(4), Math.min(units, 30));
            Check.same("work", once.link.look(3), units < 30 ? 1 : 0);
        }
    }

    private static void timeWhilePaused() {
        Check.about("in each unit of time in which it is running");
        Host host = at(1);
        host.link.tick(29);
        host.command("PAUSE", 0);
        host.link.tick(60);
        Check.same("paused", host.link.look(4), 29);
        Check.same("paused", host.link.look(3), 2);
        host.command("GO", 0);
        Check.same("it goes on from there", host.link.look(4), 29);
        Check.same("running", host.link.look(3), 1);
        host.link.enable(false);
        host.link.control(0);
        host.link.tick(1);
        Check.same("disabled and offline too", host.link.look(4), 30);
        Check.same("idle", host.link.look(3), 0);
    }

    private static int[] told(int number, int event, int work) {
        return Host.own(134, 11, number, EventTest.body(event, 1, Items.list(Items.n(3), Items.n(work))));
    }

    private static void eventsOfCommands() {
        Check.about("(The message of an event is to be sent before the reply to what it happened by.)");
        Host host = Host.reporting();
        Check.messages("START", host.command("START", 0), told(2, 2, 1));
        Check.messages("PAUSE", host.command("PAUSE", 0), told(3, 4, 2));
        Check.messages("GO has none", host.command("GO", 0));
        Check.messages("STOP", host.command("STOP", 0), told(4, 3, 0));
        Host other = Host.reporting();
        int[] start = Items.list(Items.text("START"), Items.list());
        Check.messages("no reply wanted", other.tell(2, 41, start), told(2, 2, 1));
    }

    private static void eventOfEachCommand() {
        Check.about("PAUSE when 1: work is 2; event 4. GO when 2: work is 1. Then x is 0.");
        Host host = Host.reporting();
        host.tell(2, 41, Items.list(Items.text("START"), Items.list()));
        Check.messages("PAUSE", host.command("PAUSE", 0), told(3, 4, 2));
        Check.messages("GO", host.command("GO", 0));
        Check.messages("PAUSE again", host.command("PAUSE", 0), told(4, 4, 2));
        for (int work = 1; work <= 2; work++) {
            Host other = Host.reporting();
            other.tell(2, 41, Items.list(Items.text("START"), Items.list()));
            if (work == 2) {
                other.tell(2, 41, Items.list(Items.text("PAUSE"), Items.list()));
            }
            Check.messages("STOP when " + work, other.command("STOP", 0), told(work + 2, 3, 0));
        }
    }

    private static void eventsOfRefusedCommands() {
        Check.about("2 if control is not 3, or work is not as it must be");
        Host host = Host.reporting();
        Check.messages("STOP when idle", host.command("STOP", 2));
        Check.messages("PAUSE when idle", host.command("PAUSE", 2));
        Check.messages("GO when idle", host.command("GO", 2));
        Check.messages("an unknown one", host.command("FLY", 1));
        Check.same("none lost", host.link.look(7), 0);
    }

    private static void eventOfTime() {
        Check.about("when that is 30, work is 0; event 3");
        Host host = Host.reporting();
        host.tell(2, 41, Items.list(Items.text("START"), Items.list()));
        Check.same("29 units", host.link.tick(29), 0);
        Check.same("the 30th", host.link.tick(1), 1);
        Check.messages("event 3", host.hearAll(), told(3, 3, 0));
        Check.same("nothing more", host.link.tick(10), 0);
        Host local = Host.reporting();
        local.tell(2, 41, Items.list(Items.text("START"), Items.list()));
        local.link.control(2);
        local.skip(1);
        Check.same("local too", local.link.tick(30), 1);
        Host offline = Host.reporting();
        offline.tell(2, 41, Items.list(Items.text("START"), Items.list()));
        offline.link.control(0);
        Check.same("offline: nothing is told", offline.link.tick(30), 0);
        Check.same("idle", offline.link.look(3), 0);
    }

    /** Seven are to be sent: the event is the eighth, and the reply is lost at once. */
    private static void fullOutbox() {
        Check.about("if there are 8, it is lost at once");
        Host host = Host.reporting();
        int[] start = Items.list(Items.text("START"), Items.list());
        int[] block = Host.block(host.message(130, 41, host.nextSystem(), start));
        host.link.hear(5);
        for (int i = 0; i < 7; i++) {
            host.link.ring();
        }
        for (int b : block) {
            host.link.hear(b);
        }
        Check.same("eight", host.link.look(5), 8);
        Check.same("one lost", host.link.look(7), 1);
        Check.same("running", host.link.look(3), 1);
        host.skip(7);
        Check.same("the event", host.hearMessage(), told(9, 2, 1));
    }
}
