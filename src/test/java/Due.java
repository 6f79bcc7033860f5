/** Counts answers that are not as due, and helps tests to put texts on the tape. */
final class Due {
    private static int calls;
    private static int wrong;

    private Due() {
    }

    static void is(String what, long got, long want) {
        calls++;
        if (got != want) {
            wrong++;
            System.out.println(what + " answered " + got + ", due is " + want);
        }
    }

    static void is(String what, boolean got, boolean want) {
        is(what, got ? 1 : 0, want ? 1 : 0);
    }

    /** Puts a text (characters 0 .. 255) on an empty tape. */
    static void tape(ThreeSizes sizes, String text) {
        byte[] bytes = new byte[text.length()];
        for (int i = 0; i < bytes.length; i++) {
            bytes[i] = (byte) text.charAt(i);
        }
        tape(sizes, bytes);
    }

    static void tape(ThreeSizes sizes, byte[] bytes) {
        for (int at = 0; at < bytes.length; at += 20) {
            int[] five = new int[5];
            for (int i = 0; i < 20; i++) {
                int octet = at + i < bytes.length ? bytes[at + i] & 255 : 0;
                five[i / 4] = five[i / 4] << 8 | octet;
            }
            sizes.feed(five[0], five[1], five[2], five[3], five[4]);
        }
        sizes.end(bytes.length);
    }

    static int house(ThreeSizes sizes, String text) {
        tape(sizes, text);
        return sizes.house();
    }

    static int rule(ThreeSizes sizes, int k, String text) {
        tape(sizes, text);
        return sizes.rule(k);
    }

    /** A house that must be without a fault. */
    static ThreeSizes with(String text) {
        ThreeSizes sizes = new ThreeSizes();
        is("house " + text + ": fault free", house(sizes, text) >= 0, true);
        return sizes;
    }

    /** The fault and its place of a house's text. */
    static void houseFault(String text, int fault, int place) {
        ThreeSizes sizes = new ThreeSizes();
        is("house() of '" + text + "'", house(sizes, text), ThreeSizes.NONE);
        is("fault(0) of '" + text + "'", sizes.fault(0), fault);
        is("fault(1) of '" + text + "'", sizes.fault(1), place);
    }

    static void ruleFault(String text, int fault, int place) {
        ThreeSizes sizes = new ThreeSizes();
        is("rule(0) of '" + text + "'", rule(sizes, 0, text), ThreeSizes.NONE);
        is("fault(0) of '" + text + "'", sizes.fault(0), fault);
        is("fault(1) of '" + text + "'", sizes.fault(1), place);
    }

    /** An image: of each person sort, size and five numbers, of each last three. */
    static byte[] image(int[][] people, int[][] runs) {
        byte[] bytes = new byte[2 + 12 * people.length + 6 * runs.length];
        int at = 0;
        bytes[at++] = (byte) people.length;
        for (int[] person : people) {
            bytes[at++] = (byte) person[0];
            bytes[at++] = (byte) person[1];
            for (int i = 2; i < 7; i++) {
                bytes[at++] = (byte) (person[i] >> 8);
                bytes[at++] = (byte) person[i];
            }
        }
        for (int[] three : runs) {
            for (int number : three) {
                bytes[at++] = (byte) (number >> 8);
                bytes[at++] = (byte) number;
            }
        }
        return closed(bytes);
    }

    /** Puts the byte at an image's end right. */
    static byte[] closed(byte[] bytes) {
        int c = 13;
        for (int i = 0; i < bytes.length - 1; i++) {
            c = (5 * c + (bytes[i] & 255)) % 241;
        }
        bytes[bytes.length - 1] = (byte) c;
        return bytes;
    }

    /** Lets people and what is thought be as told. */
    static void think(ThreeSizes sizes, int[][] people, int[][] runs) {
        tape(sizes, image(people, runs));
        is("on()", sizes.on(), true);
    }

    static void feet(ThreeSizes sizes, int person, int... due) {
        for (int d = -2; d <= 2; d++) {
            is("foot(" + person + ", " + d + ")", sizes.foot(person, d), due[d + 2]);
        }
    }

    static void runs(ThreeSizes sizes, int last, int... due) {
        for (int run = -1; run <= 1; run++) {
            is("last(" + last + ", " + run + ")", sizes.last(last, run), due[run + 1]);
        }
    }

    /** All that can be asked of a house with at most two lasts, near the size 40, but for the fault. */
    static String seen(ThreeSizes sizes) {
        StringBuilder all = new StringBuilder();
        for (int what = 0; what <= 10; what++) {
            all.append(sizes.has(what)).append(' ');
        }
        for (int person = 0; person < sizes.has(4); person++) {
            all.append("| ");
            for (int what = 0; what <= 7; what++) {
                all.append(sizes.who(person, what)).append(' ');
            }
            for (int d = -2; d <= 2; d++) {
                all.append(sizes.foot(person, d)).append(' ');
            }
        }
        for (int last = 0; last < sizes.has(0); last++) {
            all.append("| ").append(sizes.letter(0, last, 0)).append(' ').append(sizes.truth(last)).append(' ');
            for (int run = -1; run <= 1; run++) {
                all.append(sizes.last(last, run)).append(' ');
            }
            for (int size = 38; size <= 42; size++) {
                all.append(sizes.stock(last, size)).append(' ');
            }
        }
        for (int rule = 0; rule < 3; rule++) {
            all.append(sizes.box(rule, 0, 0)).append(' ');
        }
        return all.append(sizes.earned()).toString();
    }

    static void same(String what, String got, String want) {
        is(what + " (" + got + ", was " + want + ")", got.equals(want), true);
    }

    static void rest(String name) {
        System.out.println(name + ": " + calls + " answers, " + wrong + " wrong");
        if (wrong != 0) {
            System.exit(1);
        }
    }
}
