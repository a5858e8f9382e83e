/** Promise 9: what there is to look at, and what there is not. */
public final class LookTest {
    public static void main(String[] args) {
        FabLink link = new FabLink();
        for (int which : new int[] {-1, 8, 9, Integer.MIN_VALUE, Integer.MAX_VALUE}) {
            Check.refuses("look " + which, IllegalArgumentException.class, () -> link.look(which));
        }
        Host host = Host.reporting();
        host.command("START", 0);
        host.link.tick(3);
        host.link.ring();
        host.link.ring();
        int[] due = {Host.OFFERING, 2, 3, 1, 3, 2, 1, 0};
        for (int which = 0; which < due.length; which++) {
            Check.same("look " + which, host.link.look(which), due[which]);
        }
        host.link.tick(20);
        Check.same("lost", host.link.look(7), 1);
        Check.same("to be sent", host.link.look(5), 1);
        Check.same("its time", host.link.look(4), 23);
        lookingChangesNothing(host.link);
        Check.end();
    }

    private static void lookingChangesNothing(FabLink link) {
        int said = link.said();
        for (int round = 0; round < 2; round++) {
            for (int which = 0; which < 8; which++) {
                link.look(which);
            }
            link.report(1);
            link.event(1);
            link.format(1);
            link.octet(1, 0);
            link.saidAt(said - 1);
        }
        Check.same("nothing is said", link.said(), said);
    }
}
