import java.util.Arrays;
import java.util.List;

/** Counts and prints the answers that are not as due. */
final class Check {
    /** A call whose exception is looked at. */
    interface Call {
        void make();
    }

    private static int wrong = 0;
    private static int made = 0;
    private static int sentences = 0;
    private static int madeBefore = -1;
    private static String sentence = "";

    private Check() {
    }

    /** The checks from here on are the test of this sentence of the document. */
    static void about(String words) {
        closeSentence();
        sentences++;
        sentence = words;
        madeBefore = made;
    }

    /** A sentence that nothing was checked for has no test. */
    private static void closeSentence() {
        if (made == madeBefore) {
            wrong++;
            System.out.println("nothing is checked for: " + sentence);
        }
    }

    static void same(String what, long got, long want) {
        judge(got == want, what, Long.toString(got), Long.toString(want));
    }

    static void yes(String what, boolean got) {
        judge(got, what, "false", "true");
    }

    static void no(String what, boolean got) {
        judge(!got, what, "true", "false");
    }

    static void same(String what, int[] got, int[] want) {
        judge(Arrays.equals(got, want), what, Arrays.toString(got), Arrays.toString(want));
    }

    /** The messages, each whole, in their order. */
    static void messages(String what, List<int[]> got, int[]... want) {
        same(what + ": how many", got.size(), want.length);
        for (int i = 0; i < got.size() && i < want.length; i++) {
            same(what + ": message " + i, got.get(i), want[i]);
        }
    }

    /** Just this exception, no subclass: the document names it. */
    static void refuses(String what, Class<? extends Exception> due, Call call) {
        String got = "no exception";
        try {
            call.make();
        } catch (RuntimeException e) {
            got = e.getClass().getName();
        }
        judge(got.equals(due.getName()), what, got, due.getName());
    }

    private static void judge(boolean right, String what, String got, String want) {
        made++;
        if (!right) {
            wrong++;
            String where = sentence.isEmpty() ? "" : " [" + sentence + "]";
            System.out.println(what + ": got " + got + ", due is " + want + where);
        }
    }

    static void end() {
        closeSentence();
        System.out.println(made + " checks of " + sentences + " sentences, " + wrong + " wrong");
        if (wrong != 0) {
            System.exit(1);
        }
    }
}
