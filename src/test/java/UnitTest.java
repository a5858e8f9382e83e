/** Promise 3: what goes on in each unit of a tick, and in which order. */
public final class UnitTest {
    public static void main(String[] args) {
        talksBeforeWork();
        placeForTheTalkAlone();
        talksBeforeTheLine();
        workBeforeTheLine();
        offersInTheSameUnit();
        readingEndsInTheSameUnit();
        countsFromTheUnitInWhichItCame();
        oneCallOrMany();
        Check.end();
    }

    /** A talk and the work end in one unit; so many messages are to be sent before it. */
    private static Host talkAndWorkEnd(int messages) {
        Host host = Host.reporting();
        host.link.ring();
        host.skip(1);
        host.link.tick(15);
        host.tell(2, 41, Items.list(Items.text("START"), Items.list()));
        Check.same("29 units", host.link.tick(29), 0);
        for (int i = 0; i < messages; i++) {
            host.link.ring();
        }
        Check.same("two talks", host.link.look(6), 2);
        Check.same("both in one unit", host.link.tick(1), messages == 0 ? 1 : 0);
        Check.same("the talk is closed", host.link.look(6), 1);
        Check.same("idle", host.link.look(3), 0);
        return host;
    }

    private static void talksBeforeWork() {
        Check.about("IN EACH UNIT of a tick: talks ... work");
        Host host = talkAndWorkEnd(0);
        Check.messages("9, 9, then 6, 11", host.hearAll(),
                Host.own(9, 9, 4, Items.row(33, 10, 128, 1, 134, 11, 128, 1, 0, 0, 0, 2)),
                Host.own(134, 11, 5, EventTest.body(3, 1, Items.numbers(3, 0))));
    }

    private static void placeForTheTalkAlone() {
        Check.about("IN EACH UNIT of a tick: talks ... work");
        Host host = talkAndWorkEnd(7);
        Check.same("eight", host.link.look(5), 8);
        Check.same("the event's is lost at once", host.link.look(7), 1);
        host.skip(7);
        Check.same("9, 9 is the eighth", host.hearMessage()[3], 9);
    }

    /** The first of eight is lost in the unit in which the talk ends: for the 9, 9 that is too late. */
    private static void talksBeforeTheLine() {
        Check.about("IN EACH UNIT of a tick: talks ... the line");
        Host host = new Host();
        host.openTalks(1);
        host.link.tick(25);
        host.fill(8);
        Check.same("three failures", host.link.tick(19), 3);
        Check.same("the fourth, and the next is offered", host.link.tick(1), 1);
        Check.same("the talk is closed", host.link.look(6), 0);
        Check.same("two lost", host.link.look(7), 2);
        Check.same("seven", host.link.look(5), 7);
    }

    private static void workBeforeTheLine() {
        Check.about("IN EACH UNIT of a tick: ... work; the line");
        Host host = Host.reporting();
        host.tell(2, 41, Items.list(Items.text("START"), Items.list()));
        host.link.tick(10);
        for (int i = 0; i < 8; i++) {
            host.link.ring();
        }
        Check.same("three failures", host.link.tick(19), 3);
        Check.same("the fourth, and the next is offered", host.link.tick(1), 1);
        Check.same("idle", host.link.look(3), 0);
        Check.same("two lost", host.link.look(7), 2);
        Check.same("seven", host.link.look(5), 7);
    }

    private static void offersInTheSameUnit() {
        Check.about("At the end of every call (and of each unit of a tick): "
                + "if it is free and a message is to be sent, it says 5, and is offering.");
        Host host = new Host();
        host.openTalks(1);
        Check.same("44 units", host.link.tick(44), 0);
        Check.same("the 45th", host.link.tick(1), 1);
        Check.same("offering", host.link.look(0), Host.OFFERING);
        Host work = Host.reporting();
        work.tell(2, 41, Items.list(Items.text("START"), Items.list()));
        Check.same("29 units", work.link.tick(29), 0);
        Check.same("the 30th", work.link.tick(1), 1);
        Check.same("offering", work.link.look(0), Host.OFFERING);
    }

    private static void readingEndsInTheSameUnit() {
        Check.about("talks ... the line");
        Host host = new Host();
        host.openTalks(1);
        host.link.tick(40);
        host.link.hear(5);
        Check.same("44 units", host.link.tick(4), 0);
        Check.same("21, and 5 for the talk's message", host.link.tick(1), 2);
        Check.same("in this order", host.lastSaid(2), Items.row(21, 5));
        Host reading = new Host();
        reading.openTalks(1);
        reading.link.tick(41);
        reading.link.hear(5);
        Check.same("not while it is reading", reading.link.tick(4), 0);
        Check.same("to be sent", reading.link.look(5), 1);
        Check.same("a unit later", reading.link.tick(1), 2);
        Check.same("in this order", reading.lastSaid(2), Items.row(21, 5));
    }

    private static void countsFromTheUnitInWhichItCame() {
        Check.about("Units are counted from when it came to offer");
        Host host = new Host();
        host.openTalks(1);
        Check.same("offered with the 45th", host.link.tick(45), 1);
        Check.same("4 units more", host.link.tick(4), 0);
        Check.same("the 5th", host.link.tick(1), 1);
        Check.same("two more in one call", host.link.tick(14), 2);
        Check.same("not lost", host.link.look(7), 0);
        Check.same("the fourth", host.link.tick(1), 0);
        Check.same("lost", host.link.look(7), 1);
    }

    /** Talks of different times, work and messages to be sent: sixty units in one call, or one by one. */
    private static void oneCallOrMany() {
        Check.about("So many units of time go by: how many bytes were said in them.");
        for (int part : new int[] {1, 2, 3, 7, 15, 30, 59}) {
            Host whole = busy();
            Host parts = busy();
            int said = 0;
            for (int left = 60; left > 0; left -= part) {
                said += parts.link.tick(Math.min(part, left));
            }
            Check.same("bytes", whole.link.tick(60), said);
            Check.same("what there is", Shown.all(whole.link), Shown.all(parts.link));
        }
    }

    private static Host busy() {
        Host host = Host.reporting();
        host.link.ring();
        host.skip(1);
        host.link.tick(7);
        host.tell(2, 41, Items.list(Items.text("START"), Items.list()));
        host.link.tick(3);
        host.link.hear(5);
        host.link.hear(130);
        host.link.ring();
        return host;
    }
}
