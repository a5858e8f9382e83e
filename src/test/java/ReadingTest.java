import java.util.Arrays;

/** Promises 2 and 3: blocks that the machine reads, their sum and their limits of time. */
public final class ReadingTest {
    public static void main(String[] args) {
        bytesThatAreNone();
        freeHearsOnlyFive();
        lengths();
        sums();
        silenceBeforeTheLength();
        silenceInABlock();
        bytesStartTheTimeAnew();
        offersAfterReading();
        Check.end();
    }

    private static void bytesThatAreNone() {
        FabLink link = new FabLink();
        for (int b : new int[] {-1, 256, Integer.MIN_VALUE, Integer.MAX_VALUE}) {
            Check.refuses("hear " + b, IllegalArgumentException.class, () -> link.hear(b));
        }
        link.hear(5);
        Check.refuses("hear -1 while reading", IllegalArgumentException.class, () -> link.hear(-1));
        Check.same("still reading", link.look(0), Host.READING);
    }

    private static void freeHearsOnlyFive() {
        FabLink link = new FabLink();
        for (int b = 0; b < 256; b++) {
            if (b != 5) {
                Check.same("free hears " + b, link.hear(b), 0);
            }
        }
        Check.same("free still", link.look(0), Host.FREE);
        Check.same("5", link.hear(5), 1);
        Check.same("says 4", link.saidAt(0), 4);
        Check.same("reading", link.look(0), Host.READING);
    }

    private static void lengths() {
        for (int n : new int[] {0, 5, 9, 131, 255}) {
            FabLink link = new FabLink();
            link.hear(5);
            Check.same("length " + n, link.hear(n), 1);
            Check.same("says 21", link.saidAt(1), 21);
            Check.same("free", link.look(0), Host.FREE);
        }
        for (int n : new int[] {10, 11, 129, 130}) {
            Host host = new Host();
            int[] message = new int[n];
            Arrays.fill(message, 255);
            Check.same("a block of " + n, host.say(message), Items.row(6));
            Check.same("free", host.link.look(0), Host.FREE);
        }
    }

    private static void sums() {
        int[] message = new int[130];
        Arrays.fill(message, 255);
        int[] block = Host.block(message);
        Check.same("the greatest sum's high byte", block[131], 33150 / 256);
        for (int place = 131; place <= 132; place++) {
            int[] wrong = block.clone();
            wrong[place] ^= 1;
            Check.same("a wrong sum", verdictOf(wrong), 21);
        }
        int[] swapped = block.clone();
        swapped[131] = block[132];
        swapped[132] = block[131];
        Check.same("low byte first", verdictOf(swapped), 21);
        Check.same("the right sum", verdictOf(block), 6);
    }

    private static int verdictOf(int[] block) {
        FabLink link = new FabLink();
        link.hear(5);
        for (int b : block) {
            link.hear(b);
        }
        Check.same("free", link.look(0), Host.FREE);
        Check.same("said", link.said(), 2);
        return link.saidAt(1);
    }

    private static void silenceBeforeTheLength() {
        FabLink link = new FabLink();
        link.hear(5);
        Check.same("4 units", link.tick(4), 0);
        Check.same("reading", link.look(0), Host.READING);
        Check.same("the 5th", link.tick(1), 1);
        Check.same("says 21", link.saidAt(1), 21);
        Check.same("free", link.look(0), Host.FREE);
        Check.same("nothing more", link.tick(60), 0);
    }

    private static void silenceInABlock() {
        for (int heard : new int[] {1, 2, 11, 12}) {
            FabLink link = new FabLink();
            link.hear(5);
            for (int i = 0; i < heard; i++) {
                link.hear(10);
            }
            Check.same("1 unit after " + heard, link.tick(1), 0);
            Check.same("2 units after " + heard, link.tick(1), 1);
            Check.same("says 21", link.saidAt(1), 21);
            Check.same("free", link.look(0), Host.FREE);
        }
    }

    private static void bytesStartTheTimeAnew() {
        FabLink link = new FabLink();
        link.hear(5);
        link.tick(4);
        for (int b : Host.block(new int[10])) {
            Check.same("the last byte alone is answered", link.look(0), Host.READING);
            link.hear(b);
            link.tick(1);
        }
        Check.same("taken", link.saidAt(1), 6);
    }

    /** A message that was to be sent while it read is offered in the same call. */
    private static void offersAfterReading() {
        Host host = new Host();
        host.link.hear(5);
        host.link.enable(true);
        Check.same("nothing said of it yet", host.link.said(), 1);
        Check.same("a wrong length", host.link.hear(3), 2);
        Check.same("21, then 5", host.lastSaid(2), Items.row(21, 5));
        Host silent = new Host();
        silent.link.hear(5);
        silent.link.enable(true);
        Check.same("silence", silent.link.tick(5), 2);
        Check.same("21, then 5", silent.lastSaid(2), Items.row(21, 5));
        Check.same("offering", silent.link.look(0), Host.OFFERING);
    }
}
