import java.nio.charset.StandardCharsets;

/** What the tests share: answers that are due, texts for the input buffer, the end of a test. */
final class Check {
    static final Class<?> NO_INDEX = IndexOutOfBoundsException.class;
    static final Class<?> NO_ARGUMENT = IllegalArgumentException.class;

    private final String test;
    private int asked;
    private int wrong;

    Check(String test) {
        this.test = test;
    }

    void is(String what, long got, long want) {
        asked++;
        if (got != want) {
            wrong++;
            System.out.println(test + ": " + what + " is " + got + ", due is " + want);
        }
    }

    void is(String what, boolean got, boolean want) {
        is(what, got ? 1 : 0, want ? 1 : 0);
    }

    /** The exception is of just this class, not of one below it: those the machine throws. */
    void fails(String what, Class<?> kind, Runnable call) {
        asked++;
        try {
            call.run();
        } catch (RuntimeException e) {
            if (e.getClass() == kind) {
                return;
            }
            wrong++;
            System.out.println(test + ": " + what + " throws " + e + ", due is " + kind);
            return;
        }
        wrong++;
        System.out.println(test + ": " + what + " throws nothing, due is " + kind);
    }

    void end() {
        System.out.println(test + ": " + asked + " answers, " + wrong + " not as due");
        if (wrong != 0) {
            System.exit(1);
        }
    }

    /** Puts a text into the input buffer in place of what is there. */
    static void put(ChipNetwork net, String text) {
        byte[] bytes = text.getBytes(StandardCharsets.ISO_8859_1);
        net.truncateInput(0);
        for (int start = 0; start < bytes.length; start += 20) {
            int[] words = new int[5];
            for (int n = 0; n < 20 && start + n < bytes.length; n++) {
                words[n / 4] |= (bytes[start + n] & 255) << 24 - 8 * (n % 4);
            }
            net.appendInput(words[0], words[1], words[2], words[3], words[4]);
        }
        net.truncateInput(bytes.length);
    }

    static ChipNetwork loaded(String text) {
        ChipNetwork net = new ChipNetwork();
        put(net, text);
        if (net.load() < 0) {
            throw new IllegalStateException("the test's own text has an error: " + text);
        }
        return net;
    }

    static int played(ChipNetwork net, String text) {
        put(net, text);
        return net.play();
    }
}
