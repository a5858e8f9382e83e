/** Promises 10 and 11, and 2, 33, 2, 35 and 2, 37: reports, links and enabled events. */
public final class ReportTest {
    private static final int[] NONE = {};

    public static void main(String[] args) {
        wrongArguments();
        defined();
        definedTwiceInOne();
        definitionsRefused();
        reportsThatGo();
        linked();
        linksRefused();
        switched();
        switchedAll();
        Check.end();
    }

    private static void wrongArguments() {
        FabLink link = new FabLink();
        for (int x : new int[] {0, -1, 5, Integer.MIN_VALUE, Integer.MAX_VALUE}) {
            Check.refuses("report " + x, IndexOutOfBoundsException.class, () -> link.report(x));
        }
        for (int x : new int[] {0, -1, 6, Integer.MIN_VALUE, Integer.MAX_VALUE}) {
            Check.refuses("event " + x, IndexOutOfBoundsException.class, () -> link.event(x));
        }
    }

    private static void define(Host host, int due, int[]... entries) {
        host.expect("2, 33", 2, 33, Items.table(entries), 34, Items.b(due));
    }

    private static void link(Host host, int due, int[]... entries) {
        host.expect("2, 35", 2, 35, Items.table(entries), 36, Items.b(due));
    }

    private static void enable(Host host, int due, int on, int... events) {
        host.expect("2, 37", 2, 37, Items.list(Items.item(Items.BOOLEAN, on), Items.numbers(events)), 38, Items.b(due));
    }

    private static void reports(Host host, int... due) {
        for (int r = 1; r <= 4; r++) {
            Check.same("report " + r, host.link.report(r), due[r - 1]);
        }
    }

    private static void events(Host host, int... due) {
        for (int e = 1; e <= 5; e++) {
            Check.same("event " + e, host.link.event(e), due[e - 1]);
        }
    }

    private static void defined() {
        Host host = Host.online(2);
        define(host, 0, Items.entry(1, 0), Items.entry(4, 5, 5, 0));
        reports(host, 1, 0, 0, 3);
        define(host, 0, Items.entry(3, 1, 2), Items.entry(2));
        reports(host, 1, 0, 2, 3);
    }

    private static void definedTwiceInOne() {
        Host host = Host.online(3);
        define(host, 0, Items.entry(1, 0, 1, 2), Items.entry(1, 3));
        reports(host, 1, 0, 0, 0);
        define(host, 0, Items.entry(2, 0), Items.entry(2));
        reports(host, 1, 0, 0, 0);
        define(host, 0, Items.entry(2), Items.entry(2, 0, 1));
        reports(host, 1, 2, 0, 0);
        define(host, 3, Items.entry(1), Items.entry(1, 0));
        reports(host, 1, 2, 0, 0);
    }

    private static void definitionsRefused() {
        notDefined(1, Items.entry(2, 1), Items.entry(0, 1));
        notDefined(1, Items.entry(5, 1));
        notDefined(1, Items.entry(0));
        notDefined(1, Items.entry(255, 9));
        notDefined(1, Items.entry(2, 0, 1, 2, 3));
        notDefined(1, Items.entry(1, 9, 9, 9, 9));
        notDefined(3, Items.entry(2, 1), Items.entry(1, 1));
        notDefined(3, Items.entry(1, 9));
        notDefined(4, Items.entry(2, 1), Items.entry(3, 1, 6));
        notDefined(4, Items.entry(3, 255));
        notDefined(4, Items.entry(3, 6), Items.entry(1, 1), Items.entry(9, 1));
        notDefined(3, Items.entry(1, 1), Items.entry(9, 1), Items.entry(3, 6));
        notDefined(1, Items.entry(9, 1), Items.entry(3, 6), Items.entry(1, 1));
        notDefined(4, Items.entry(1), Items.entry(3, 6));
    }

    /** Report 1 alone is there, before and after. */
    private static void notDefined(int due, int[]... entries) {
        Host host = Host.online(3);
        define(host, 0, Items.entry(1, 0));
        define(host, due, entries);
        reports(host, 1, 0, 0, 0);
    }

    private static Host withLinks() {
        Host host = Host.online(3);
        define(host, 0, Items.entry(1, 0), Items.entry(2, 1), Items.entry(3, 2));
        link(host, 0, Items.entry(1, 1, 2), Items.entry(2, 2), Items.entry(3, 1, 1), Items.entry(5, 3, 1));
        events(host, 2, 1, 2, 0, 2);
        return host;
    }

    private static void reportsThatGo() {
        Host host = withLinks();
        define(host, 0, Items.entry(1), Items.entry(4, 0));
        reports(host, 0, 1, 1, 1);
        events(host, 1, 1, 0, 0, 1);
        link(host, 5, Items.entry(4, 1));
        define(host, 0, Items.entry(1, 0, 1));
        events(host, 1, 1, 0, 0, 1);
        define(host, 0);
        reports(host, 0, 0, 0, 0);
        events(host, 0, 0, 0, 0, 0);
        Host other = withLinks();
        enable(other, 0, 1, 1);
        define(other, 3, Items.entry(2), Items.entry(2, 3, 3));
        events(other, 12, 1, 2, 0, 2);
        define(other, 0, Items.entry(2), Items.entry(4, 3, 3));
        define(other, 0, Items.entry(2, 3, 3));
        reports(other, 1, 2, 1, 2);
        events(other, 11, 0, 2, 0, 2);
    }

    private static void linked() {
        Host host = withLinks();
        link(host, 0, Items.entry(1, 3), Items.entry(4, 2, 2));
        events(host, 1, 1, 2, 2, 2);
        link(host, 0, Items.entry(1), Items.entry(2, 1, 2), Items.entry(2, 3));
        events(host, 0, 1, 2, 2, 2);
        link(host, 0);
        events(host, 0, 1, 2, 2, 2);
    }

    private static void linksRefused() {
        notLinked(1, Items.entry(1), Items.entry(2, 1, 2, 3));
        notLinked(1, Items.entry(9, 9, 9, 9));
        notLinked(4, Items.entry(1), Items.entry(6, 1));
        notLinked(4, Items.entry(0));
        notLinked(4, Items.entry(255, 9));
        notLinked(5, Items.entry(1), Items.entry(2, 1, 4));
        notLinked(5, Items.entry(2, 0));
        notLinked(5, Items.entry(2, 5), Items.entry(6, 1), Items.entry(2, 1, 1, 1));
        notLinked(4, Items.entry(6, 1), Items.entry(2, 1, 1, 1), Items.entry(2, 5));
        notLinked(1, Items.entry(2, 1, 1, 1), Items.entry(2, 5), Items.entry(6, 1));
    }

    private static void notLinked(int due, int[]... entries) {
        Host host = withLinks();
        link(host, due, entries);
        events(host, 2, 1, 2, 0, 2);
    }

    private static void switched() {
        Host host = withLinks();
        enable(host, 0, 1, 2, 4, 2);
        events(host, 2, 11, 2, 10, 2);
        enable(host, 1, 1, 1, 6);
        enable(host, 1, 0, 2, 0);
        enable(host, 1, 1, 6, 1);
        enable(host, 1, 0, 0, 2);
        events(host, 2, 11, 2, 10, 2);
    }

    private static void switchedAll() {
        Host host = withLinks();
        enable(host, 0, 255);
        events(host, 12, 11, 12, 10, 12);
        enable(host, 0, 0, 5);
        events(host, 12, 11, 12, 10, 2);
        enable(host, 0, 0, NONE);
        events(host, 2, 1, 2, 0, 2);
        Host unlinked = Host.online(3);
        enable(unlinked, 0, 128, 3);
        events(unlinked, 0, 0, 10, 0, 0);
    }
}
