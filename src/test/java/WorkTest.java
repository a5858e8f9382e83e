/** 2, 41 and promise 3: commands, work and its time, and events 2, 3 and 4. */
public final class WorkTest {
    public static void main(String[] args) {
        commands();
        unknownOnes();
        onlyRemote();
        timeOfWork();
        pausedTime();
        eventsOfCommands();
        eventsOfOtherCommands();
        eventOfTime();
        orderInAUnit();
        fullOutbox();
        Check.end();
    }

    private static void commands() {
        String[] names = {"START", "STOP", "PAUSE", "GO"};
        int[][] next = {{1, -1, -1, -1}, {-1, 0, 2, -1}, {-1, 0, -1, 1}};
        for (int work = 0; work <= 2; work++) {
            for (int i = 0; i < names.length; i++) {
                Host host = Host.online(3);
                if (work >= 1) {
                    host.command("START", 0);
                }
                if (work == 2) {
                    host.command("PAUSE", 0);
                }
                Check.same("work", host.link.look(3), work);
                boolean may = next[work][i] >= 0;
                host.command(names[i], may ? 0 : 2);
                Check.same("work after " + names[i], host.link.look(3), may ? next[work][i] : work);
                Check.same("variable 1", host.link.octet(1, 0), host.link.look(3));
            }
        }
    }

    private static void unknownOnes() {
        String[] names = {"", "X", "start", "STAR", "STARTS", "STOPP", "PAUS", "GO ", " GO", "G", "PAUSED", "STAXT",
            "XTART", "XTOP", "XAUSE", "XO"};
        for (String name : names) {
            Host host = Host.online(3);
            host.command(name, 1);
            Check.same("work", host.link.look(3), 0);
        }
    }

    private static void onlyRemote() {
        Host host = Host.online(2);
        host.command("START", 2);
        host.command("FLY", 1);
        Check.same("idle", host.link.look(3), 0);
        host.link.control(3);
        host.command("START", 0);
        host.link.control(2);
        host.command("PAUSE", 2);
        host.command("STOP", 2);
        Check.same("running", host.link.look(3), 1);
    }

    private static void timeOfWork() {
        Host host = Host.online(3);
        host.link.tick(7);
        Check.same("idle: none", host.link.look(4), 0);
        host.command("START", 0);
        Check.same("at first", host.link.look(4), 0);
        host.link.tick(29);
        Check.same("29", host.link.look(4), 29);
        Check.same("running", host.link.look(3), 1);
        host.link.tick(1);
        Check.same("30", host.link.look(4), 30);
        Check.same("idle", host.link.look(3), 0);
        host.link.tick(5);
        Check.same("it grows no more", host.link.look(4), 30);
        host.command("START", 0);
        Check.same("from 0 again", host.link.look(4), 0);
        host.link.tick(60);
        Check.same("not beyond 30", host.link.look(4), 30);
    }

    private static void pausedTime() {
        Host host = Host.online(3);
        host.command("START", 0);
        host.link.tick(10);
        host.command("PAUSE", 0);
        host.link.tick(50);
        Check.same("paused", host.link.look(4), 10);
        host.command("GO", 0);
        Check.same("it goes on", host.link.look(4), 10);
        host.link.enable(false);
        host.link.tick(19);
        Check.same("disabled too", host.link.look(4), 29);
        Check.same("running", host.link.look(3), 1);
        host.link.tick(1);
        Check.same("idle", host.link.look(3), 0);
        Host stopped = Host.online(3);
        stopped.command("START", 0);
        stopped.link.tick(4);
        stopped.command("STOP", 0);
        Check.same("its time stays", stopped.link.look(4), 4);
    }

    private static int[] told(int number, int event, int work) {
        return Host.own(134, 11, number, EventTest.body(event, 1, Items.list(Items.n(3), Items.n(work))));
    }

    private static void eventsOfCommands() {
        Host host = Host.reporting();
        Check.messages("START", host.command("START", 0), told(2, 2, 1));
        Check.messages("PAUSE", host.command("PAUSE", 0), told(3, 4, 2));
        Check.messages("GO", host.command("GO", 0));
        Check.messages("STOP", host.command("STOP", 0), told(4, 3, 0));
    }

    private static void eventsOfOtherCommands() {
        Host host = Host.reporting();
        Check.messages("STOP when idle", host.command("STOP", 2));
        int[] start = Items.list(Items.text("START"), Items.list());
        Check.messages("no reply wanted", host.tell(2, 41, start), told(2, 2, 1));
    }

    private static void eventOfTime() {
        Host host = Host.reporting();
        host.command("START", 0);
        Check.same("29 units", host.link.tick(29), 0);
        Check.same("the 30th", host.link.tick(1), 1);
        Check.messages("event 3", host.hearAll(), told(3, 3, 0));
        host.command("START", 0);
        host.link.control(2);
        host.hearAll();
        host.link.tick(30);
        Check.same("local too", host.hearMessage()[9], 6);
    }

    /** A talk and the work end in one unit: the talk's message comes first. */
    private static void orderInAUnit() {
        Host host = Host.reporting();
        host.link.ring();
        int[] rung = host.hearMessage();
        host.link.tick(15);
        host.command("START", 0);
        host.say(host.message(6, 12, Items.row(0, 0, 0, 3)));
        Check.same("29 units", host.link.tick(29), 0);
        Check.same("both in one", host.link.tick(1), 1);
        Check.messages("talks, then work", host.hearAll(), Host.complaint(9, 4, rung), told(5, 3, 0));
    }

    /** Seven are to be sent: the event is the eighth, and the reply is lost at once. */
    private static void fullOutbox() {
        Host host = Host.reporting();
        int[] start = Items.list(Items.text("START"), Items.list());
        int[] block = Host.block(host.message(130, 41, host.nextSystem(), start));
        host.link.hear(5);
        for (int i = 0; i < 7; i++) {
            host.link.ring();
        }
        for (int b : block) {
            host.link.hear(b);
        }
        Check.same("eight", host.link.look(5), 8);
        Check.same("one lost", host.link.look(7), 1);
        Check.same("running", host.link.look(3), 1);
        host.skip(7);
        Check.same("the event", host.hearMessage(), told(9, 2, 1));
    }
}
