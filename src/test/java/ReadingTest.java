import java.util.Arrays;

/** Promise 2, THE LINE: what it hears while it is free, and the blocks that it reads. */
public final class ReadingTest {
    public static void main(String[] args) {
        bytesThatAreNone();
        freeHearsOnlyFive();
        lengths();
        lengthThatIsNone();
        wholeBlocks();
        bytesOfABlock();
        sums();
        wrongSumIsNotTaken();
        takenWhenTheLastByteHasCome();
        freeAfterABlock();
        Check.end();
    }

    private static void bytesThatAreNone() {
        Check.about("A byte is heard: ... IllegalArgumentException: it is not 0 .. 255.");
        FabLink link = new FabLink();
        for (int b : new int[] {-1, 256, 257, 261, -251, Integer.MIN_VALUE, Integer.MAX_VALUE}) {
            Check.refuses("hear " + b, IllegalArgumentException.class, () -> link.hear(b));
        }
        Check.same("0 is one", link.hear(0), 0);
        Check.same("255 is one", link.hear(255), 0);
        link.hear(5);
        Check.refuses("hear -1 while reading", IllegalArgumentException.class, () -> link.hear(-1));
        Check.refuses("hear 256 while reading", IllegalArgumentException.class, () -> link.hear(256));
        Check.same("still reading", link.look(0), Host.READING);
    }

    private static void freeHearsOnlyFive() {
        Check.about("What it HEARS: free: 5: it says 4, and is reading. Any other byte: nothing.");
        for (int b = 0; b <= 255; b++) {
            FabLink link = new FabLink();
            Check.same("free hears " + b, link.hear(b), b == 5 ? 1 : 0);
            Check.same("then it is", link.look(0), b == 5 ? Host.READING : Host.FREE);
            Check.same("said", link.said(), b == 5 ? 1 : 0);
        }
        FabLink link = new FabLink();
        link.hear(5);
        Check.same("says 4", link.saidAt(0), 4);
    }

    private static void lengths() {
        Check.about("THE LINE. A BLOCK is a LENGTH n (10 .. 130)");
        for (int n = 0; n <= 255; n++) {
            boolean isOne = n >= 10 && n <= 130;
            FabLink link = new FabLink();
            link.hear(5);
            Check.same("length " + n, link.hear(n), isOne ? 0 : 1);
            Check.same("then it is", link.look(0), isOne ? Host.READING : Host.FREE);
        }
    }

    private static void lengthThatIsNone() {
        Check.about("A length that is none: it says 21, and is free.");
        for (int n : new int[] {0, 4, 5, 6, 9, 131, 255}) {
            FabLink link = new FabLink();
            link.hear(5);
            link.hear(n);
            Check.same("says 21", link.saidAt(1), 21);
            Check.same("free", link.look(0), Host.FREE);
            Check.same("the next byte is no length", link.hear(10), 0);
            Check.same("free", link.look(0), Host.FREE);
            Check.same("it reads anew", link.hear(5), 1);
            Check.same("a length now", link.hear(10), 0);
            Check.same("reading", link.look(0), Host.READING);
        }
    }

    private static void wholeBlocks() {
        Check.about("then n bytes, then two bytes");
        for (int n = 10; n <= 130; n++) {
            Host host = new Host();
            int[] message = new int[n];
            Arrays.fill(message, 255);
            Check.same("a block of " + n, host.say(message), Items.row(6));
            Check.same("free", host.link.look(0), Host.FREE);
        }
    }

    private static void bytesOfABlock() {
        Check.about("reading: the bytes of a block.");
        for (int b : new int[] {0, 4, 5, 6, 21, 255}) {
            Host host = new Host();
            int[] message = new int[10];
            Arrays.fill(message, b);
            Check.same("ten times " + b, host.say(message), Items.row(6));
        }
    }

    /**
     * "The sum .. by 65536" can't be reached: no sum of a block is 65536, as 130 times 255 are 33150.
     */
    private static void sums() {
        Check.about("the sum of the n bytes by 65536, high byte first");
        for (int sum : new int[] {0, 1, 255, 256, 257, 511, 512, 32767, 32768, 33149, 33150}) {
            int[] message = messageOfSum(sum);
            Check.same("the sum " + sum, verdictOf(message, sum), 6);
            for (int other : new int[] {sum - 1, sum + 1, sum - 256, sum + 256, sum + message.length, sum ^ 32768}) {
                Check.same("not " + other, verdictOf(message, other & 65535), 21);
            }
            int swapped = (sum & 255) << 8 | sum >> 8;
            Check.same("low byte first", verdictOf(message, swapped), swapped == sum ? 6 : 21);
        }
    }

    private static int[] messageOfSum(int sum) {
        int[] message = new int[130];
        int left = sum;
        for (int i = 0; i < message.length; i++) {
            message[i] = Math.min(255, left);
            left -= message[i];
        }
        return message;
    }

    private static int verdictOf(int[] message, int sum) {
        FabLink link = new FabLink();
        link.hear(5);
        link.hear(message.length);
        for (int b : message) {
            link.hear(b);
        }
        link.hear(sum >> 8);
        Check.same("reading before the last byte", link.look(0), Host.READING);
        Check.same("said by the last byte", link.hear(sum & 255), 1);
        Check.same("free", link.look(0), Host.FREE);
        return link.saidAt(1);
    }

    private static void wrongSumIsNotTaken() {
        Check.about("else it says 21, and is free");
        Host host = Host.enabled();
        int[] block = Host.block(host.message(129, 13, host.nextSystem()));
        for (int place = block.length - 2; place < block.length; place++) {
            int[] wrong = block.clone();
            wrong[place] ^= 1;
            host.link.hear(5);
            hear(host.link, wrong);
            Check.same("21 alone", host.lastSaid(2), Items.row(4, 21));
            Check.same("free", host.link.look(0), Host.FREE);
            Check.same("not taken", host.link.look(1), 1);
            Check.same("no reply", host.link.look(5), 0);
        }
    }

    private static void takenWhenTheLastByteHasCome() {
        Check.about("When the last byte has come: if the sum is right, it says 6, is free, "
                + "and the message of the n bytes is TAKEN");
        Host host = Host.enabled();
        int[] block = Host.block(host.message(1, 13, host.nextSystem()));
        host.link.hear(5);
        hear(host.link, Arrays.copyOf(block, block.length - 1));
        Check.same("not yet", host.link.look(1), 1);
        Check.same("the last one", host.link.hear(block[block.length - 1]), 1);
        Check.same("says 6", host.lastSaid(1), Items.row(6));
        Check.same("free", host.link.look(0), Host.FREE);
        Check.same("taken", host.link.look(1), 2);
    }

    private static void hear(FabLink link, int[] bytes) {
        for (int b : bytes) {
            link.hear(b);
        }
    }

    /** Two blocks, the second shorter than the first: nothing of the first one is left in it. */
    private static void freeAfterABlock() {
        Check.about("it says 6, is free");
        Host host = new Host();
        int[] longest = new int[130];
        Arrays.fill(longest, 255);
        Check.same("130 bytes", host.say(longest), Items.row(6));
        Check.same("behind them nothing is read", host.link.hear(10), 0);
        Check.same("free", host.link.look(0), Host.FREE);
        Check.same("10 bytes", host.say(new int[10]), Items.row(6));
    }
}
