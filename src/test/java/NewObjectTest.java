/** Promise 1: disabled, free, nothing to be sent; and how long an object is used. */
public final class NewObjectTest {
    public static void main(String[] args) {
        everythingAtFirst();
        nothingGoesOn();
        twoObjects();
        upToTheLastCall();
        Check.end();
    }

    private static void everythingAtFirst() {
        Check.about("Disabled, free, nothing to be sent.");
        FabLink link = new FabLink();
        for (int which = 0; which < 8; which++) {
            Check.same("look " + which, link.look(which), 0);
        }
        Check.same("said", link.said(), 0);
        for (int r = 1; r <= 4; r++) {
            Check.same("report " + r, link.report(r), 0);
        }
        for (int e = 1; e <= 5; e++) {
            Check.same("event " + e, link.event(e), 0);
        }
        for (int v = 0; v <= 5; v++) {
            Check.same("format " + v, link.format(v), 41);
            Check.same("octet " + v, link.octet(v, 0), 0);
        }
    }

    private static void nothingGoesOn() {
        Check.about("Disabled, free, nothing to be sent.");
        FabLink link = new FabLink();
        Check.same("time goes by", link.tick(60), 0);
        Check.no("ring", link.ring());
        link.control(2);
        Check.same("nothing was said", link.said(), 0);
        Check.same("free", link.look(0), Host.FREE);
        Check.refuses("disabled already", IllegalStateException.class, () -> link.enable(false));
    }

    private static void twoObjects() {
        Check.about("Disabled, free, nothing to be sent.");
        Host busy = Host.reporting();
        busy.link.ring();
        int[] shown = Shown.all(busy.link);
        FabLink other = new FabLink();
        Check.same("the other one is new", other.look(1), 0);
        other.enable(true);
        other.hear(4);
        other.tick(60);
        Check.same("the one stays as it is", Shown.all(busy.link), shown);
    }

    private static void upToTheLastCall() {
        Check.about("An object is used for at most 512 calls after it has been made");
        FabLink link = new FabLink();
        for (int call = 1; call <= 510; call += 2) {
            Check.same("call " + call, link.hear(5), 1);
            Check.same("the next", link.hear(9), 1);
        }
        Check.same("the 511th", link.said(), 510);
        Check.same("the 512th", link.saidAt(509), 21);
    }
}
