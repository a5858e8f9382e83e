import java.util.Arrays;

/** Promises 10 and 11, and 2, 33, 2, 35 and 2, 37: reports, links and enabled events. */
public final class ReportTest {
    private static final int[] NONE = {};

    public static void main(String[] args) {
        noSuchReport();
        noSuchEvent();
        defined();
        replyToReports();
        numbersOfReports();
        variablesOfAReport();
        thereAlready();
        variablesThatAreNotThere();
        firstDefinitionThatIsWrong();
        definedTwiceInOne();
        allGone();
        linkedNoMore();
        linked();
        reportsOfAnEvent();
        numbersOfEvents();
        reportsThatAreNotThere();
        firstLinkThatIsWrong();
        switched();
        switchedAll();
        switchedNone();
        Check.end();
    }

    private static void noSuchReport() {
        Check.about("How many variables a report has; 0 when it is not there. IndexOutOfBoundsException: it is not 1 .. 4.");
        FabLink link = new FabLink();
        for (int r : new int[] {0, -1, 5, 6, Integer.MIN_VALUE, Integer.MAX_VALUE}) {
            Check.refuses("report " + r, IndexOutOfBoundsException.class, () -> link.report(r));
        }
        for (int r = 1; r <= 4; r++) {
            Check.same("report " + r, link.report(r), 0);
        }
    }

    private static void noSuchEvent() {
        Check.about("With how many reports an event is linked, 10 more if it is enabled. "
                + "IndexOutOfBoundsException: it is not 1 .. 5.");
        FabLink link = new FabLink();
        for (int e : new int[] {0, -1, 6, 7, Integer.MIN_VALUE, Integer.MAX_VALUE}) {
            Check.refuses("event " + e, IndexOutOfBoundsException.class, () -> link.event(e));
        }
        for (int e = 1; e <= 5; e++) {
            Check.same("event " + e, link.event(e), 0);
        }
    }

    private static void define(Host host, int due, int[]... entries) {
        host.expect("2, 33", 2, 33, Items.table(entries), 34, Items.b(due));
    }

    private static void link(Host host, int due, int[]... entries) {
        host.expect("2, 35", 2, 35, Items.table(entries), 36, Items.b(due));
    }

    private static void enable(Host host, int due, int on, int... events) {
        host.expect("2, 37", 2, 37, Items.list(Items.item(Items.BOOLEAN, on), Items.numbers(events)), 38, Items.b(due));
    }

    private static void reports(Host host, int... due) {
        for (int r = 1; r <= 4; r++) {
            Check.same("report " + r, host.link.report(r), due[r - 1]);
        }
    }

    private static void events(Host host, int... due) {
        for (int e = 1; e <= 5; e++) {
            Check.same("event " + e, host.link.event(e), due[e - 1]);
        }
    }

    private static void defined() {
        Check.about("Otherwise for each in its order the report of the first number has these variables, "
                + "or, if there are none, is gone.");
        Host host = Host.online(2);
        define(host, 0, Items.entry(1, 0), Items.entry(4, 5, 5, 0));
        reports(host, 1, 0, 0, 3);
        define(host, 0, Items.entry(3, 1, 2), Items.entry(2));
        reports(host, 1, 0, 2, 3);
        define(host, 0, Items.entry(4));
        reports(host, 1, 0, 2, 0);
        define(host, 0, Items.entry(4));
        reports(host, 1, 0, 2, 0);
    }

    private static void replyToReports() {
        Check.about("REPORTS. ... A report that is gone is linked with no event any more. Reply B 0.");
        int[][] tables = {
            Items.table(), Items.table(Items.entry(1)), Items.table(Items.entry(1, 0)), Items.table(Items.entry(1)),
        };
        Host host = Host.online(2);
        for (int[] table : tables) {
            Check.messages("2, 34", host.ask(2, 33, table), host.reply(2, 34, Items.row(33, 1, 0)));
        }
    }

    /** Report 1 alone is there, before and after; nothing else is changed either. */
    private static void notDefined(int due, int[]... entries) {
        Host host = Host.online(3);
        host.tell(2, 33, Items.table(Items.entry(1, 0)));
        host.tell(2, 35, Items.table(Items.entry(5, 1)));
        int[] before = Shown.kept(host.link);
        define(host, due, entries);
        Check.same("nothing is changed", Shown.kept(host.link), before);
    }

    private static void numbersOfReports() {
        Check.about("If one, in their order, is not 1 .. 4 ... B 1");
        for (int r = 1; r <= 4; r++) {
            Host host = Host.online(3);
            define(host, 0, Items.entry(r, 0));
            Check.same("report " + r, host.link.report(r), 1);
        }
        for (int r : new int[] {0, 5, 6, 255}) {
            notDefined(1, Items.entry(r, 0));
            notDefined(1, Items.entry(r));
            notDefined(1, Items.entry(2, 1), Items.entry(r, 1));
        }
    }

    private static void variablesOfAReport() {
        Check.about("or has more than 3 variables: B 1");
        for (int count = 1; count <= 3; count++) {
            Host host = Host.online(3);
            define(host, 0, Items.entry(2, new int[count]));
            Check.same("variables", host.link.report(2), count);
        }
        notDefined(1, Items.entry(2, 0, 1, 2, 3));
        notDefined(1, Items.entry(2, 0, 0, 0, 0, 0));
        notDefined(1, Items.entry(1, 0, 1, 2, 3));
        notDefined(1, Items.entry(2, 9, 9, 9, 9));
        notDefined(1, Items.entry(3, 0), Items.entry(2, 0, 1, 2, 3));
    }

    private static void thereAlready() {
        Check.about("or is there already (from before) and has variables: B 3");
        notDefined(3, Items.entry(1, 0));
        notDefined(3, Items.entry(1, 1, 2));
        notDefined(3, Items.entry(2, 1), Items.entry(1, 1));
        notDefined(3, Items.entry(1, 9));
        notDefined(3, Items.entry(1), Items.entry(1, 0));
        Host host = Host.online(3);
        define(host, 0, Items.entry(1, 0));
        define(host, 0, Items.entry(1));
        define(host, 0, Items.entry(1, 0, 1));
        reports(host, 2, 0, 0, 0);
    }

    private static void variablesThatAreNotThere() {
        Check.about("or has a variable that is not there: B 4");
        for (int v = 0; v <= 5; v++) {
            define(Host.online(3), 0, Items.entry(2, v));
        }
        for (int v : new int[] {6, 7, 255}) {
            notDefined(4, Items.entry(2, v));
            notDefined(4, Items.entry(3, 0, 5, v));
            notDefined(4, Items.entry(3, v, 5, 0));
            notDefined(4, Items.entry(2, 1), Items.entry(3, 1, v));
        }
    }

    private static void firstDefinitionThatIsWrong() {
        Check.about("by the first one that is so, in this order of reasons; then nothing is changed");
        notDefined(4, Items.entry(3, 6), Items.entry(1, 1), Items.entry(9, 1));
        notDefined(3, Items.entry(1, 1), Items.entry(9, 1), Items.entry(3, 6));
        notDefined(1, Items.entry(9, 1), Items.entry(3, 6), Items.entry(1, 1));
        notDefined(1, Items.entry(0, 6));
        notDefined(1, Items.entry(1, 6, 6, 6, 6));
        notDefined(3, Items.entry(1, 6));
        notDefined(4, Items.entry(1), Items.entry(3, 6));
    }

    private static void definedTwiceInOne() {
        Check.about("(from before)");
        Host host = Host.online(3);
        define(host, 0, Items.entry(1, 0, 1, 2), Items.entry(1, 3));
        reports(host, 1, 0, 0, 0);
        define(host, 0, Items.entry(2, 0), Items.entry(2));
        reports(host, 1, 0, 0, 0);
        define(host, 0, Items.entry(2), Items.entry(2, 0, 1));
        reports(host, 1, 2, 0, 0);
        define(host, 3, Items.entry(1), Items.entry(1, 0));
        reports(host, 1, 2, 0, 0);
    }

    private static Host withLinks() {
        Host host = Host.online(3);
        host.tell(2, 33, Items.table(Items.entry(1, 0), Items.entry(2, 1), Items.entry(3, 2)));
        host.tell(2, 35, Items.table(
                Items.entry(1, 1, 2), Items.entry(2, 2), Items.entry(3, 1, 1), Items.entry(5, 3, 1)));
        events(host, 2, 1, 2, 0, 2);
        return host;
    }

    private static void allGone() {
        Check.about("If there is nothing in the second list, all reports are gone.");
        Host host = withLinks();
        define(host, 0);
        reports(host, 0, 0, 0, 0);
        events(host, 0, 0, 0, 0, 0);
        define(host, 0);
        reports(host, 0, 0, 0, 0);
        define(host, 0, Items.entry(1, 0), Items.entry(2, 0), Items.entry(3, 0), Items.entry(4, 0));
        reports(host, 1, 1, 1, 1);
        events(host, 0, 0, 0, 0, 0);
        Host whatever = Host.online(3);
        define(whatever, 0, Items.entry(4, 0));
        whatever.expect("whatever the number", 2, 33, Items.list(Items.n(255), Items.list()), 34, Items.b(0));
        reports(whatever, 0, 0, 0, 0);
    }

    private static void linkedNoMore() {
        Check.about("A report that is gone is linked with no event any more.");
        Host host = withLinks();
        define(host, 0, Items.entry(1), Items.entry(4, 0));
        reports(host, 0, 1, 1, 1);
        events(host, 1, 1, 0, 0, 1);
        link(host, 5, Items.entry(4, 1));
        define(host, 0, Items.entry(1, 0, 1));
        events(host, 1, 1, 0, 0, 1);
        Host other = withLinks();
        enable(other, 0, 1, 1);
        define(other, 3, Items.entry(2), Items.entry(2, 3, 3));
        events(other, 12, 1, 2, 0, 2);
        define(other, 0, Items.entry(2));
        events(other, 11, 0, 2, 0, 2);
        reports(other, 1, 0, 1, 0);
    }

    private static void linked() {
        Check.about("each event of the first number is linked with these reports instead of those before. Reply B 0.");
        Host host = withLinks();
        link(host, 0, Items.entry(1, 3), Items.entry(4, 2, 2));
        events(host, 1, 1, 2, 2, 2);
        link(host, 0, Items.entry(1), Items.entry(2, 1, 2), Items.entry(2, 3));
        events(host, 0, 1, 2, 2, 2);
        link(host, 0);
        events(host, 0, 1, 2, 2, 2);
    }

    private static void notLinked(int due, int[]... entries) {
        Host host = withLinks();
        int[] before = Shown.kept(host.link);
        link(host, due, entries);
        Check.same("nothing is changed", Shown.kept(host.link), before);
    }

    private static void reportsOfAnEvent() {
        Check.about("If one has more than 2: B 1");
        for (int count = 0; count <= 2; count++) {
            Host host = withLinks();
            link(host, 0, Items.entry(4, Arrays.copyOf(new int[] {1, 3}, count)));
            Check.same("reports", host.link.event(4), count);
        }
        notLinked(1, Items.entry(4, 1, 2, 3));
        notLinked(1, Items.entry(4, 1, 1, 1, 1));
        notLinked(1, Items.entry(1), Items.entry(2, 1, 2, 3));
    }

    private static void numbersOfEvents() {
        Check.about("or is no event: B 4");
        for (int e = 1; e <= 5; e++) {
            Host host = withLinks();
            link(host, 0, Items.entry(e, 3));
            Check.same("event " + e, host.link.event(e), 1);
        }
        for (int e : new int[] {0, 6, 7, 255}) {
            notLinked(4, Items.entry(e, 1));
            notLinked(4, Items.entry(e));
            notLinked(4, Items.entry(1), Items.entry(e, 1));
        }
    }

    private static void reportsThatAreNotThere() {
        Check.about("or names a report that is not there: B 5");
        for (int r : new int[] {0, 4, 5, 255}) {
            notLinked(5, Items.entry(4, r));
            notLinked(5, Items.entry(4, 1, r));
            notLinked(5, Items.entry(4, r, 1));
            notLinked(5, Items.entry(1), Items.entry(2, r));
        }
        Host host = Host.online(3);
        link(host, 5, Items.entry(1, 1));
        define(host, 0, Items.entry(1, 0), Items.entry(4, 0));
        link(host, 0, Items.entry(1, 1, 4));
        events(host, 2, 0, 0, 0, 0);
    }

    private static void firstLinkThatIsWrong() {
        Check.about("by the first one that is so, likewise; then nothing is changed");
        notLinked(5, Items.entry(2, 4), Items.entry(6, 1), Items.entry(2, 1, 1, 1));
        notLinked(4, Items.entry(6, 1), Items.entry(2, 1, 1, 1), Items.entry(2, 4));
        notLinked(1, Items.entry(2, 1, 1, 1), Items.entry(2, 4), Items.entry(6, 1));
        notLinked(1, Items.entry(6, 4, 4, 4));
        notLinked(4, Items.entry(0, 4));
    }

    private static void switched() {
        Check.about("these events ... are enabled, or disabled if the byte is 0. Reply B 0");
        Host host = withLinks();
        enable(host, 0, 1, 1, 5, 1);
        events(host, 12, 1, 2, 0, 12);
        enable(host, 0, 255, 2, 4);
        events(host, 12, 11, 2, 10, 12);
        enable(host, 0, 0, 1, 4);
        events(host, 2, 11, 2, 0, 12);
        enable(host, 0, 128, 3);
        events(host, 2, 11, 12, 0, 12);
        enable(host, 0, 2, 3);
        events(host, 2, 11, 12, 0, 12);
    }

    private static void switchedAll() {
        Check.about("(all, if there are none in the list)");
        Host host = withLinks();
        enable(host, 0, 255, NONE);
        events(host, 12, 11, 12, 10, 12);
        enable(host, 0, 0, 5);
        events(host, 12, 11, 12, 10, 2);
        enable(host, 0, 0, NONE);
        events(host, 2, 1, 2, 0, 2);
        enable(host, 0, 1, NONE);
        events(host, 12, 11, 12, 10, 12);
    }

    private static void switchedNone() {
        Check.about("B 1 if one is no event, then nothing is changed");
        notSwitched(1, 1, 6);
        notSwitched(0, 2, 0);
        notSwitched(1, 6, 1);
        notSwitched(0, 0, 2);
        notSwitched(0, 255);
        notSwitched(1, 0);
    }

    private static void notSwitched(int on, int... events) {
        Host host = withLinks();
        enable(host, 0, 1, 2, 4);
        int[] before = Shown.kept(host.link);
        enable(host, 1, on, events);
        Check.same("nothing is changed", Shown.kept(host.link), before);
    }
}
