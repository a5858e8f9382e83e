/** Promise 1: disabled, free, nothing to be sent. */
public final class NewObjectTest {
    public static void main(String[] args) {
        FabLink link = new FabLink();
        for (int which = 0; which < 8; which++) {
            Check.same("look " + which, link.look(which), 0);
        }
        Check.same("said", link.said(), 0);
        for (int r = 1; r <= 4; r++) {
            Check.same("report " + r, link.report(r), 0);
        }
        for (int e = 1; e <= 5; e++) {
            Check.same("event " + e, link.event(e), 0);
        }
        for (int v = 0; v <= 5; v++) {
            Check.same("format " + v, link.format(v), 41);
            Check.same("octet " + v, link.octet(v, 0), 0);
        }
        nothingGoesOn();
        Check.end();
    }

    private static void nothingGoesOn() {
        FabLink link = new FabLink();
        Check.same("time goes by", link.tick(60), 0);
        Check.no("ring", link.ring());
        link.control(2);
        Check.same("nothing was said", link.said(), 0);
        Check.same("free", link.look(0), Host.FREE);
        Check.refuses("disabled already", IllegalStateException.class, () -> link.enable(false));
    }
}
