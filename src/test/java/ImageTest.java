/** Promises 38 (image), 39 (octet), 40 (on). */
public final class ImageTest {
    private static final String HOUSE = "last a price 100 runs 20 50 30;last b price 50 runs 0 100 0;"
            + "sort s off 10 20 40 20 10 wear 0 grow 0 leave 0;sort t off 0 0 0 0 100 wear 0 grow 0 leave 0;"
            + "keeps 0 10 50 10 0;fare 5;stock a 40 3;stock a 41 3;stock b 42 1;";

    public static void main(String[] args) {
        writes();
        stays();
        takes();
        begins();
        refuses();
        fullHouse();
        Due.rest("ImageTest");
    }

    static int check(byte[] bytes, int count) {
        int c = 13;
        for (int i = 0; i < count; i++) {
            c = (5 * c + (bytes[i] & 255)) % 241;
        }
        return c;
    }

    private static byte[] imageOf(ThreeSizes x) {
        byte[] bytes = new byte[x.image()];
        for (int i = 0; i < bytes.length; i++) {
            bytes[i] = (byte) x.octet(i);
        }
        return bytes;
    }

    private static ThreeSizes two() {
        ThreeSizes x = Due.with(HOUSE);
        x.person(0, 40);
        x.person(1, 42);
        return x;
    }

    private static void writes() {
        ThreeSizes x = two();
        Due.is("1 + 2 * 12 + 2 * 6 + 1", x.image(), 38);
        int[] due = {2, 0, 40, 3, 232, 7, 208, 15, 160, 7, 208, 3, 232, 1, 42, 0, 0, 0, 0, 0, 0, 0, 0, 39, 16,
            7, 208, 19, 136, 11, 184, 0, 0, 39, 16, 0, 0};
        byte[] bytes = new byte[due.length];
        for (int i = 0; i < due.length; i++) {
            Due.is("octet(" + i + ")", x.octet(i), due[i]);
            bytes[i] = (byte) due[i];
        }
        Due.is("the byte at its end", x.octet(37), check(bytes, 37));
        Due.is("octet(38)", x.octet(38), -1);
        Due.is("octet(-1)", x.octet(-1), -1);
        Due.is("octet(MAX)", x.octet(Integer.MAX_VALUE), -1);
        ThreeSizes empty = new ThreeSizes();
        Due.is("ahead of any", empty.octet(0), -1);
        Due.is("of nothing", empty.image(), 2);
        Due.is("how many", empty.octet(0), 0);
        Due.is("(5 * 13 + 0) mod 241", empty.octet(1), 65);
    }

    /** The latest image stays as it is until the next one. */
    private static void stays() {
        ThreeSizes x = two();
        x.image();
        x.person(0, 40);
        x.answer(0, 0, true);
        Due.is("still two", x.octet(0), 2);
        x.house();
        Due.is("still there", x.octet(37) >= 0, true);
        Due.is("a shorter one", x.image(), 2);
        Due.is("none behind it", x.octet(2), -1);
    }

    private static void takes() {
        ThreeSizes x = two();
        x.send(0, 0, 4);
        x.back(0, 0);
        int[] feet = new int[5];
        for (int d = -2; d <= 2; d++) {
            feet[d + 2] = x.foot(0, d);
        }
        int run = x.last(0, -1);
        byte[] bytes = imageOf(x);
        ThreeSizes y = Due.with(HOUSE);
        y.person(1, 33);
        Due.tape(y, bytes);
        Due.is("on()", y.on(), true);
        Due.is("the tape went", y.feed(0, 0, 0, 0, 0), 20);
        Due.is("people", y.has(4), 2);
        for (int d = -2; d <= 2; d++) {
            Due.is("foot " + d, y.foot(0, d), feet[d + 2]);
        }
        Due.is("sort", y.who(1, 0), 1);
        Due.is("size", y.who(1, 1), 42);
        Due.is("run", y.last(0, -1), run);
        Due.is("learnt it was", run != 2000, true);
        ThreeSizes empty = new ThreeSizes();
        Due.tape(empty, new byte[] {0, 65});
        Due.is("an empty one", empty.on(), true);
    }

    private static void begins() {
        ThreeSizes x = two();
        byte[] bytes = imageOf(x);
        x.send(0, 0, 12);
        x.back(0, 0);
        x.send(0, 0, 8);
        x.send(1, 1, 4);
        x.fee(7);
        x.days(2);
        x.draw(9);
        int earned = x.earned();
        int truth = x.truth(0);
        Due.is("out", x.has(8), 2);
        Due.is("stock of 41", x.stock(0, 41), 1);
        Due.is("stock of 42", x.stock(1, 42), 0);
        Due.tape(x, bytes);
        Due.is("on()", x.on(), true);
        Due.is("none out", x.has(8), 0);
        Due.is("41 at once, but for the one on its way", x.stock(0, 41), 2);
        Due.is("42 at once", x.stock(1, 42), 1);
        Due.is("still on its way", x.has(10), 1);
        Due.is("came back", x.who(0, 2), 0);
        Due.is("whole", x.who(0, 3), 0);
        Due.is("box", x.who(0, 4), -1);
        Due.is("bits", x.who(0, 5), 0);
        Due.is("foot of the truth", x.who(0, 6), -1);
        Due.is("run of the truth stays", x.truth(0), truth);
        Due.is("earned stays", x.earned(), earned);
        Due.is("fee stays", x.has(7), 7);
        Due.is("day stays", x.has(9), 2);
        Due.is("what is thought is told by it", x.foot(0, 0), 4000);
        x.days(5);
        Due.is("a week after it came", x.stock(0, 41), 3);
        x.send(0, 0, 4);
        x.back(0, 0);
        x.send(1, 0, 1);
        x.back(1, -2);
        Due.is("new people kept nothing before", x.alike(0, 1), x.who(1, 2) == 1 ? 1 : 0);
        Due.tape(x, bytes);
        x.on();
        Due.is("nor are they alike", x.alike(0, 1), 0);
    }

    private static void refused(String what, byte[] bytes) {
        ThreeSizes x = two();
        x.send(0, 0, 4);
        x.draw(4);
        Due.tape(x, bytes);
        Due.is(what, x.on(), false);
        Due.is(what + ": the tape went", x.feed(0, 0, 0, 0, 0), 20);
        Due.is(what + ": people", x.has(4), 2);
        Due.is(what + ": box", x.has(8), 1);
        Due.is(what + ": stock", x.stock(0, 40), 2);
        Due.is(what + ": truth", x.who(0, 6) >= 0, true);
        Due.is(what + ": foot", x.foot(0, 0), 4000);
        Due.is(what + ": last", x.last(0, 0), 5000);
    }

    private static byte[] with(byte[] bytes, int... changes) {
        byte[] changed = bytes.clone();
        for (int i = 0; i < changes.length; i += 2) {
            changed[changes[i]] = (byte) changes[i + 1];
        }
        changed[changed.length - 1] = (byte) check(changed, changed.length - 1);
        return changed;
    }

    private static void refuses() {
        byte[] bytes = imageOf(two());
        refused("nothing", new byte[0]);
        refused("one byte", new byte[] {0});
        refused("too short", java.util.Arrays.copyOf(bytes, 37));
        refused("too long", java.util.Arrays.copyOf(bytes, 39));
        byte[] end = bytes.clone();
        end[37]++;
        refused("the byte at its end", end);
        refused("sort 2", with(bytes, 1, 2));
        refused("size 29", with(bytes, 2, 29));
        refused("size 50", with(bytes, 2, 50));
        refused("size 128 + 40", with(bytes, 2, 168));
        refused("five of 10001", with(bytes, 12, 233));
        refused("five of 9999", with(bytes, 12, 231));
        refused("three of 10001", with(bytes, 30, 185));
        refused("three of 9999", with(bytes, 30, 183));
        refused("one person less told", with(bytes, 0, 1));
        refused("one person more told", with(bytes, 0, 3));
        byte[] oneLast = java.util.Arrays.copyOf(bytes, 32);
        oneLast[31] = (byte) check(oneLast, 31);
        refused("with a last less", oneLast);
        ThreeSizes x = two();
        Due.tape(x, with(bytes, 1, 1, 2, 49, 3, 0, 4, 0, 5, 11, 6, 184));
        Due.is("another one is taken", x.on(), true);
        Due.is("its sort", x.who(0, 0), 1);
        Due.is("its size", x.who(0, 1), 49);
        Due.is("its foot", x.foot(0, -1), 3000);
    }

    private static void fullHouse() {
        StringBuilder text = new StringBuilder();
        for (char name = 'a'; name < 'i'; name++) {
            text.append("last ").append(name).append(" price 1 runs 33 33 34;");
        }
        text.append("sort s off 19 20 22 20 19 wear 0 grow 0 leave 0;");
        ThreeSizes x = Due.with(text.toString());
        for (int i = 0; i < 20; i++) {
            x.person(0, 30 + i);
        }
        Due.is("1 + 20 * 12 + 8 * 6 + 1", x.image(), 290);
        byte[] bytes = imageOf(x);
        Due.is("its end", x.octet(289), check(bytes, 289));
        ThreeSizes y = Due.with(text.toString());
        Due.tape(y, bytes);
        Due.is("taken", y.on(), true);
        Due.is("people", y.has(4), 20);
        Due.is("the last of them", y.who(19, 1), 49);
        byte[] more = new byte[302];
        System.arraycopy(bytes, 0, more, 0, 241);
        System.arraycopy(bytes, 229, more, 241, 12);
        System.arraycopy(bytes, 241, more, 253, 48);
        more[0] = 21;
        more[301] = (byte) check(more, 301);
        Due.tape(y, more);
        Due.is("21 people", y.on(), false);
    }
}
