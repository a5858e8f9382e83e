import java.util.Random;

/**
 * Any calls in any state, up to the 512 that an object is used for: only the exceptions of the
 * document, and answers that agree with one another.
 */
public final class WildTest {
    private static final int OBJECTS = 4000;
    /** A step takes two calls at the most, and ten with its checks. */
    private static final int STEPS = 250;
    private static final int CHECKED_STEPS = 51;
    private static final String[] COMMANDS = {"START", "STOP", "PAUSE", "GO"};
    private static final int[][] KINDS = {
        {1, 1}, {1, 3}, {1, 13}, {1, 15}, {1, 17}, {2, 15}, {2, 33}, {2, 35}, {2, 37}, {2, 41}, {6, 12}, {1, 14},
    };

    private final Random random;
    private final FabLink link = new FabLink();
    private int[] block = new int[0];
    private int at;
    private boolean enabled;

    private WildTest(long seed) {
        random = new Random(seed);
    }

    public static void main(String[] args) {
        for (int seed = 0; seed < OBJECTS; seed++) {
            try {
                new WildTest(seed).run(seed % 2 == 0);
            } catch (RuntimeException e) {
                Check.same("seed " + seed + " threw " + e, 1, 0);
            }
        }
        Check.end();
    }

    private void run(boolean checked) {
        if (checked) {
            for (int i = 0; i < CHECKED_STEPS; i++) {
                checkedStep();
            }
            return;
        }
        for (int i = 0; i < STEPS; i++) {
            call();
        }
        checkedStep();
    }

    private void checkedStep() {
        int before = link.said();
        int answer = call();
        if (answer >= 0) {
            Check.same("as many as were said", link.said() - before, answer);
        }
        int state = link.look(0);
        int toBeSent = link.look(5);
        Check.no("free with something to be sent", state == Host.FREE && toBeSent > 0);
        Check.no("offering nothing", state >= Host.OFFERING && toBeSent == 0);
        Check.yes("limits", toBeSent <= 8 && link.look(6) <= 8 && link.look(4) <= 30);
    }

    /** What hear or tick answered, or -1. */
    private int call() {
        switch (random.nextInt(40)) {
            case 0:
                return link.tick(1 + random.nextInt(random.nextInt(10) == 0 ? 60 : 3));
            case 1:
                link.control(new int[] {0, 2, 3, 3}[random.nextInt(4)]);
                return -1;
            case 2:
                link.ring();
                return -1;
            case 3:
                if (!enabled || random.nextInt(20) == 0) {
                    enabled = !enabled;
                    link.enable(enabled);
                }
                return -1;
            case 4:
                return link.hear(random.nextInt(256));
            default:
                return hearSomethingFit();
        }
    }

    private int hearSomethingFit() {
        int state = link.look(0);
        if (state == Host.OFFERING) {
            return link.hear(4);
        }
        if (state == Host.WAITING) {
            return link.hear(random.nextInt(10) == 0 ? 21 : 6);
        }
        if (state == Host.FREE) {
            block = Host.block(randomMessage());
            at = 0;
            return link.hear(5);
        }
        int b = at < block.length ? block[at] : 0;
        at++;
        return link.hear(b);
    }

    private int[] randomMessage() {
        int[] kind = KINDS[random.nextInt(KINDS.length)];
        int[] header = {0, 1, kind[0] | 128, kind[1], 128, 1, 0, 0, 0, 1 + random.nextInt(5)};
        if (random.nextInt(20) == 0) {
            header[random.nextInt(10)] = random.nextInt(256);
        }
        int[] message = Items.join(header, randomBody());
        return message.length > 130 ? java.util.Arrays.copyOf(message, 130) : message;
    }

    private int[] randomBody() {
        int small = random.nextInt(7);
        switch (random.nextInt(8)) {
            case 0:
                return Items.row();
            case 1:
                return Items.numbers(small, random.nextInt(7));
            case 2:
                return Items.table(Items.entry(small, random.nextInt(7)), Items.entry(random.nextInt(6)));
            case 3:
                return Items.list(Items.item(Items.BOOLEAN, random.nextInt(4)), Items.list());
            case 4:
                return Items.list(Items.text(COMMANDS[random.nextInt(COMMANDS.length)]), Items.list());
            case 5:
                return Items.list(Items.pair(small, randomItem(0)), Items.pair(2 + random.nextInt(4), randomItem(0)));
            case 6:
                return randomItem(0);
            default:
                int[] bytes = new int[random.nextInt(121)];
                for (int i = 0; i < bytes.length; i++) {
                    bytes[i] = random.nextInt(random.nextBoolean() ? 4 : 256);
                }
                return bytes;
        }
    }

    private int[] randomItem(int depth) {
        int[] formats = {8, 9, 16, 25, 26, 28, 41, 42, 44, 36, 32, 7};
        if (depth < 8 && random.nextInt(3) == 0) {
            int[][] items = new int[random.nextInt(3)][];
            for (int i = 0; i < items.length; i++) {
                items[i] = randomItem(depth + 1);
            }
            return Items.list(items);
        }
        return Items.item(formats[random.nextInt(formats.length)], Items.zeros(random.nextInt(10)));
    }
}
