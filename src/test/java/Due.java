/** Counts answers that are not as due, and helps tests to put texts on the tape. */
final class Due {
    private static int calls;
    private static int wrong;

    private Due() {
    }

    static void is(String what, long got, long want) {
        calls++;
        if (got != want) {
            wrong++;
            System.out.println(what + " answered " + got + ", due is " + want);
        }
    }

    static void is(String what, boolean got, boolean want) {
        is(what, got ? 1 : 0, want ? 1 : 0);
    }

    /** Puts a text (characters 0 .. 255) on an empty tape. */
    static void tape(ThreeSizes sizes, String text) {
        byte[] bytes = new byte[text.length()];
        for (int i = 0; i < bytes.length; i++) {
            bytes[i] = (byte) text.charAt(i);
        }
        tape(sizes, bytes);
    }

    static void tape(ThreeSizes sizes, byte[] bytes) {
        for (int at = 0; at < bytes.length; at += 20) {
            int[] five = new int[5];
            for (int i = 0; i < 20; i++) {
                int octet = at + i < bytes.length ? bytes[at + i] & 255 : 0;
                five[i / 4] = five[i / 4] << 8 | octet;
            }
            sizes.feed(five[0], five[1], five[2], five[3], five[4]);
        }
        sizes.end(bytes.length);
    }

    static int house(ThreeSizes sizes, String text) {
        tape(sizes, text);
        return sizes.house();
    }

    static int rule(ThreeSizes sizes, int k, String text) {
        tape(sizes, text);
        return sizes.rule(k);
    }

    /** A house that must be without a fault. */
    static ThreeSizes with(String text) {
        ThreeSizes sizes = new ThreeSizes();
        is("house " + text + ": fault free", house(sizes, text) >= 0, true);
        return sizes;
    }

    /** The fault and its place of a house's text. */
    static void houseFault(String text, int fault, int place) {
        ThreeSizes sizes = new ThreeSizes();
        is("house() of '" + text + "'", house(sizes, text), ThreeSizes.NONE);
        is("fault(0) of '" + text + "'", sizes.fault(0), fault);
        is("fault(1) of '" + text + "'", sizes.fault(1), place);
    }

    static void ruleFault(String text, int fault, int place) {
        ThreeSizes sizes = new ThreeSizes();
        is("rule(0) of '" + text + "'", rule(sizes, 0, text), ThreeSizes.NONE);
        is("fault(0) of '" + text + "'", sizes.fault(0), fault);
        is("fault(1) of '" + text + "'", sizes.fault(1), place);
    }

    static void rest(String name) {
        System.out.println(name + ": " + calls + " answers, " + wrong + " wrong");
        if (wrong != 0) {
            System.exit(1);
        }
    }
}
