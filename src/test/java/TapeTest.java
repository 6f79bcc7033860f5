/** Promises 1 (a new object), 2 (feed), 3 (end). */
public final class TapeTest {
    public static void main(String[] args) {
        newObject();
        feedCounts();
        feedIsFull();
        endCuts();
        bytesAreHighestFirst();
        Due.rest("TapeTest");
    }

    private static void newObject() {
        ThreeSizes x = new ThreeSizes();
        for (int what = 0; what <= 10; what++) {
            Due.is("new has(" + what + ")", x.has(what), 0);
        }
        Due.is("new fault(0)", x.fault(0), 0);
        Due.is("new fault(1)", x.fault(1), -1);
        Due.is("new earned()", x.earned(), 0);
        Due.is("new octet(0)", x.octet(0), -1);
        Due.is("new end(0)", x.end(0), true);
        Due.is("new end(1)", x.end(1), false);
        Due.is("NONE", ThreeSizes.NONE, -1);
        Due.is("NOTHING", ThreeSizes.NOTHING, -1000000000);
    }

    private static void feedCounts() {
        ThreeSizes x = new ThreeSizes();
        Due.is("feed", x.feed(0, 0, 0, 0, 0), 20);
        Due.is("feed", x.feed(-1, -1, -1, -1, -1), 40);
        Due.is("end", x.end(3), true);
        Due.is("feed behind a cut", x.feed(1, 2, 3, 4, 5), 23);
        x.house();
        Due.is("feed behind house()", x.feed(1, 2, 3, 4, 5), 20);
    }

    private static void feedIsFull() {
        ThreeSizes x = new ThreeSizes();
        for (int i = 1; i <= 80; i++) {
            Due.is("feed " + i, x.feed(0, 0, 0, 0, 0), 20 * i);
        }
        Due.is("feed 81", x.feed(0, 0, 0, 0, 0), -1);
        Due.is("end at all", x.end(1600), true);
        Due.is("end above", x.end(1601), false);
        x.end(1581);
        Due.is("feed of one too many", x.feed(0, 0, 0, 0, 0), -1);
        Due.is("it did nothing", x.end(1582), false);
        x.end(1580);
        Due.is("feed that just fits", x.feed(0, 0, 0, 0, 0), 1600);
    }

    private static void endCuts() {
        ThreeSizes x = new ThreeSizes();
        x.feed(0, 0, 0, 0, 0);
        Due.is("end(-1)", x.end(-1), false);
        Due.is("end(21)", x.end(21), false);
        Due.is("end(MIN)", x.end(Integer.MIN_VALUE), false);
        Due.is("end(20)", x.end(20), true);
        Due.is("end(7)", x.end(7), true);
        Due.is("end(8)", x.end(8), false);
        Due.is("end(0)", x.end(0), true);
    }

    private static void bytesAreHighestFirst() {
        ThreeSizes x = new ThreeSizes();
        x.feed(0x66656520, 0x31323b00, 0, 0, 0);
        x.end(7);
        Due.is("'fee 12;'", x.house(), 1);
        Due.is("the fee", x.has(7), 12);
    }
}
