import java.util.Arrays;

/**
 * The document's sentences on a new object, the tape and images (Terms III; promises 1 to 3, 38 to 40)
 * that name an edge, each with both sides of it. The sentence stands above its test.
 */
public final class ImageEdgesTest {
    private static final String HOUSE = "last a price 100 runs 20 50 30;last b price 50 runs 0 100 0;"
            + "sort s off 10 20 40 20 10 wear 0 grow 0 leave 0;sort t off 0 0 0 0 100 wear 0 grow 0 leave 0;"
            + "keeps 10 10 50 10 10;fare 5;stock a 39 3;stock a 40 3;stock a 41 3;stock b 40 3;stock b 42 2;";
    private static final int[][] RUNS = {{2000, 5000, 3000}, {0, 10000, 0}};

    public static void main(String[] args) {
        newObject();
        at1600();
        firstNBytes();
        highestFirst();
        theTapeGoes();
        bytesOfAnImage();
        howManyPeople();
        twoBytesEach();
        theByteAtItsEnd();
        octets();
        theLatestImage();
        everyByteCounts();
        sortsTold();
        sizesTold();
        fivesTogether();
        threesTogether();
        asManyLasts();
        asManyPeople();
        lengths();
        newPeople();
        boxesComeAtOnce();
        noTruthOfPeople();
        allStays();
        whatAnImageLeaves();
        Due.rest("ImageEdgesTest");
    }

    /** "No LASTS, SORTS, PEOPLE, RULES." */
    private static void newObject() {
        ThreeSizes x = new ThreeSizes();
        for (int what = 0; what <= 10; what++) {
            Due.is("has(" + what + ")", x.has(what), 0);
        }
        for (int i = 0; i < 3; i++) {
            Due.is("letter", x.letter(i, 0, 0), -1);
            Due.is("person", x.person(i, 40), -1);
            Due.is("last", x.last(i, 0), -1);
            Due.is("foot", x.foot(i, 0), -1);
            Due.is("who", x.who(i, 0), -1);
            Due.is("box", x.box(i, 0, 0), -1);
            Due.is("stock", x.stock(i, 40), -1);
            Due.is("print", x.print(i), -2);
            Due.is("truth", x.truth(i), -1);
            Due.is("send", x.send(i, i, 4), -1);
            Due.is("back", x.back(i, 3), false);
            Due.is("best", x.best(i, i, false), -1);
            Due.is("best", x.best(i, i, true), ThreeSizes.NOTHING);
            Due.is("strangers", x.strangers(i, 0), -1);
            Due.is("hold", x.hold(i, 40), -1);
            Due.is("alike", x.alike(i, i + 1), -1);
        }
        Due.is("earned", x.earned(), 0);
        Due.is("year", x.year(), 0);
        Due.is("octet", x.octet(0), -1);
        Due.is("end", x.end(1), false);
        Due.is("fault", x.fault(0), 0);
        Due.is("place", x.fault(1), -1);
        ThreeSizes y = new ThreeSizes();
        Due.house(x, HOUSE);
        x.person(0, 40);
        Due.rule(x, 0, "send up when all;");
        Due.is("what one object has no other has", y.has(0) + y.has(1) + y.has(3) + y.has(4), 0);
    }

    /** "how many there are; NONE, doing nothing, if there would be more than 1600" */
    private static void at1600() {
        ThreeSizes x = new ThreeSizes();
        for (int i = 1; i <= 80; i++) {
            Due.is("feed " + i, x.feed(i, i, i, i, i), 20 * i);
        }
        Due.is("1620", x.feed(0, 0, 0, 0, 0), -1);
        Due.is("it did nothing", x.end(1600), true);
        Due.is("no more than 1600", x.end(1601), false);
        Due.is("1581", x.end(1581), true);
        Due.is("1601", x.feed(0, 0, 0, 0, 0), -1);
        Due.is("it did nothing", x.end(1582), false);
        Due.is("1580", x.end(1580), true);
        Due.is("1600", x.feed(0, 0, 0, 0, 0), 1600);
        Due.is("0", x.end(0), true);
        Due.is("20", x.feed(0, 0, 0, 0, 0), 20);
        // A text that takes the whole tape: its last byte counts.
        String full = "fee 1;" + " ".repeat(1593);
        ThreeSizes y = new ThreeSizes();
        Due.is("1599 bytes and a blank", Due.house(y, full + " "), 1);
        Due.is("1599 bytes and a fault", Due.house(y, full + "?"), -1);
        Due.is("its place", y.fault(1), 1599);
    }

    /** "The tape has its first n bytes alone: true; false, doing nothing, if it has not so many, or n is below 0." */
    private static void firstNBytes() {
        ThreeSizes x = new ThreeSizes();
        Due.is("0 of 0", x.end(0), true);
        Due.is("1 of 0", x.end(1), false);
        x.feed(0x66656520, 0x31323b66, 0x65652039, 0x393b3b3b, 0);
        for (int none : new int[] {-1, 21, 1600, Integer.MIN_VALUE, Integer.MAX_VALUE}) {
            Due.is("end(" + none + ")", x.end(none), false);
        }
        Due.is("20 of 20", x.end(20), true);
        Due.is("14 of 20", x.end(14), true);
        Due.is("15 of 14", x.end(15), false);
        Due.is("14 of 14", x.end(14), true);
        Due.is("'fee 12;fee 99;'", x.house(), 2);
        Due.is("fee 99", x.has(7), 99);
        x.feed(0x66656520, 0x31323b66, 0x65652039, 0x393b3b3b, 0);
        Due.is("7 of 20", x.end(7), true);
        Due.is("more behind them", x.feed(0x66656520, 0x333b0000, 0, 0, 0), 27);
        Due.is("13 of 27", x.end(13), true);
        Due.is("'fee 12;fee 3;'", x.house(), 2);
        Due.is("fee 3", x.has(7), 3);
        // Bytes behind the cut go on with a word, a number, a blank, a statement: they are not there.
        String[] texts = {"fee 1", "fe", "last a", "last abcdef", "fare 1234", "fee 12", "fee 1;fee 1", "fee 1;f"};
        String[] behind = {"2;", "e 1;", "b price 1 runs 0 0 0;", "g", "5;", " ;", ";", "ee 1;"};
        int[] places = {5, 0, 6, 11, 9, 6, 11, 6};
        for (int i = 0; i < texts.length; i++) {
            ThreeSizes y = new ThreeSizes();
            Due.tape(y, texts[i] + behind[i]);
            Due.is("cut", y.end(texts[i].length()), true);
            Due.is("'" + texts[i] + "' ahead of '" + behind[i] + "'", y.house(), -1);
            Due.is("its fault", y.fault(0), 1);
            Due.is("its place", y.fault(1), places[i]);
        }
        ThreeSizes y = new ThreeSizes();
        Due.tape(y, "fee 1;fee 2; fee 3;");
        Due.is("cut", y.end(6), true);
        Due.is("one alone", y.house(), 1);
        Due.is("fee 1", y.has(7), 1);
    }

    /** "Twenty bytes come behind those on the tape, of each number the highest first" */
    private static void highestFirst() {
        ThreeSizes x = new ThreeSizes();
        x.feed(0x6661_7265, 0x2039_3837, 0x363b_7769, 0x7065_2031, 0x3233_343b);
        Due.is("'fare 9876;wipe 1234;'", x.house(), 2);
        Due.is("fare", x.has(5), 9876);
        Due.is("wipe", x.has(6), 1234);
        x.feed(0x6665_6520, 0x373b_ff00, 0, 0, 0);
        Due.is("a byte above 127", x.house(), -1);
        Due.is("its place", x.fault(1), 6);
        for (int place = 0; place < 20; place++) {
            int[] five = {0x20202020, 0x20202020, 0x20202020, 0x20202020, 0x20202020};
            five[place / 4] ^= (0x20 ^ 0x3f) << 24 - 8 * (place % 4);
            x.feed(five[0], five[1], five[2], five[3], five[4]);
            x.house();
            Due.is("byte " + place, x.fault(1), place);
        }
    }

    /** "The tape (it goes)": with house(), rule() and on(), with a fault and without */
    private static void theTapeGoes() {
        ThreeSizes x = new ThreeSizes();
        for (int times = 0; times < 2; times++) {
            Due.tape(x, times == 0 ? "fee 1;" : "?");
            x.house();
            Due.is("behind house()", x.end(1), false);
            Due.tape(x, times == 0 ? "send up when all;" : "?");
            x.rule(0);
            Due.is("behind rule()", x.end(1), false);
            Due.tape(x, times == 0 ? new byte[] {0, 65} : new byte[] {0, 66});
            Due.is("on()", x.on(), times == 0);
            Due.is("behind on()", x.end(1), false);
            Due.is("feed starts anew", x.feed(0, 0, 0, 0, 0), 20);
            x.end(0);
        }
    }

    // ---------------------------------------------------------------- images

    private static ThreeSizes two() {
        ThreeSizes x = Due.with(HOUSE);
        x.person(0, 40);
        x.person(1, 42);
        return x;
    }

    private static byte[] imageOf(ThreeSizes x) {
        byte[] bytes = new byte[x.image()];
        for (int i = 0; i < bytes.length; i++) {
            bytes[i] = (byte) x.octet(i);
        }
        return bytes;
    }

    /** "for each PERSON SORT, SIZE asked, five numbers .., behind a byte for how many; for each LAST three numbers" */
    private static void bytesOfAnImage() {
        byte[] due = Due.image(new int[][] {{0, 40, 1000, 2000, 4000, 2000, 1000}, {1, 42, 0, 0, 0, 0, 10000}}, RUNS);
        byte[] bytes = imageOf(two());
        Due.is("1 + 2 * 12 + 2 * 6 + 1", bytes.length, 38);
        Due.is("its bytes", Arrays.equals(bytes, due), true);
        bytes = imageOf(Due.with(HOUSE));
        Due.is("no people", Arrays.equals(bytes, Due.image(new int[0][], RUNS)), true);
    }

    /** "how many bytes": none, one, 20 people; none, 8 lasts */
    private static void howManyPeople() {
        ThreeSizes x = new ThreeSizes();
        Due.is("of nothing", x.image(), 2);
        Due.is("none", x.octet(0), 0);
        Due.is("its end", x.octet(1), 65);
        StringBuilder text = new StringBuilder("sort s off 0 0 0 0 0 wear 0 grow 0 leave 0;");
        for (char name = 'a'; name < 'i'; name++) {
            text.append("last ").append(name).append(" price 1 runs 33 33 34;");
        }
        x = Due.with(text.toString());
        for (int count = 0; count <= 20; count++) {
            Due.is("people " + count, x.image(), 1 + 12 * count + 48 + 1);
            Due.is("how many", x.octet(0), count);
            x.person(0, 30 + count % 20);
        }
        byte[] full = imageOf(x);
        Due.is("all full", full.length, 290);
        ThreeSizes y = Due.with(text.toString());
        Due.tape(y, full);
        Due.is("it is taken", y.on(), true);
        Due.is("people", y.has(4), 20);
        Due.is("written again it is the same", Arrays.equals(imageOf(y), full), true);
    }

    /** "(two bytes each, the higher first)": of each person and each last, numbers about 255, 256 and 10000 */
    private static void twoBytesEach() {
        int[][] people = {{0, 30, 255, 256, 257, 0, 9232}, {1, 49, 10000, 0, 0, 0, 0}, {0, 40, 1, 127, 128, 9743, 1},
            {1, 31, 0, 0, 9999, 1, 0}};
        int[][] runs = {{255, 256, 9489}, {9999, 0, 1}};
        ThreeSizes x = Due.with(HOUSE);
        Due.think(x, people, runs);
        Due.is("people", x.has(4), 4);
        for (int i = 0; i < 4; i++) {
            Due.is("sort of " + i, x.who(i, 0), people[i][0]);
            Due.is("size of " + i, x.who(i, 1), people[i][1]);
            Due.feet(x, i, Arrays.copyOfRange(people[i], 2, 7));
        }
        Due.runs(x, 0, runs[0]);
        Due.runs(x, 1, runs[1]);
        Due.is("written again", Arrays.equals(imageOf(x), Due.image(people, runs)), true);
    }

    /** "last a byte: all ahead from 13 on, c = (5 c + it) mod 241" */
    private static void theByteAtItsEnd() {
        for (int end = 0; end < 256; end++) {
            ThreeSizes x = new ThreeSizes();
            Due.tape(x, new byte[] {0, (byte) end});
            Due.is("0, " + end, x.on(), end == 65);
        }
        byte[] bytes = imageOf(two());
        for (int by : new int[] {1, 15, 241, 255}) {
            byte[] other = bytes.clone();
            other[37] += (byte) by;
            ThreeSizes x = two();
            Due.tape(x, other);
            Due.is("its end and " + by, x.on(), false);
        }
    }

    /** "octet(k): Byte k of the latest image(); NONE when there is none such." */
    private static void octets() {
        ThreeSizes x = two();
        for (int none : new int[] {-1, 0, 1, 37, Integer.MIN_VALUE, Integer.MAX_VALUE}) {
            Due.is("ahead of any, octet " + none, x.octet(none), -1);
        }
        x.image();
        Due.is("the first", x.octet(0), 2);
        Due.is("the last", x.octet(37) >= 0 && x.octet(37) < 241, true);
        for (int none : new int[] {-1, 38, 289, 290, Integer.MIN_VALUE, Integer.MAX_VALUE}) {
            Due.is("octet " + none, x.octet(none), -1);
        }
        Due.is("232 is above 0", x.octet(4), 232);
    }

    /** "the latest image()": it stays as it was written, until the next one */
    private static void theLatestImage() {
        ThreeSizes x = two();
        byte[] bytes = imageOf(x);
        x.person(0, 40);
        x.send(0, 0, 4);
        x.back(0, 0);
        x.year();
        Due.tape(x, Due.image(new int[0][], RUNS));
        Due.is("on()", x.on(), true);
        Due.is("an empty house", x.house(), 0);
        for (int i = 0; i < 38; i++) {
            Due.is("octet " + i, x.octet(i), bytes[i] & 255);
        }
        Due.is("a shorter one", x.image(), 2);
        Due.is("ends there", x.octet(2), -1);
    }

    private static ThreeSizes taken(byte[] bytes, boolean due, String what) {
        ThreeSizes x = two();
        Due.tape(x, bytes);
        Due.is(what, x.on(), due);
        return x;
    }

    /** An image of which one byte is another one is none. */
    private static void everyByteCounts() {
        byte[] bytes = imageOf(two());
        for (int at = 0; at < bytes.length; at++) {
            for (int by : new int[] {1, 128, 255}) {
                byte[] other = bytes.clone();
                other[at] += (byte) by;
                taken(other, false, "byte " + at + " and " + by);
            }
        }
        taken(bytes, true, "as it was");
    }

    private static byte[] onePerson(int... person) {
        return Due.image(new int[][] {person}, RUNS);
    }

    /** "It is taken, if it is such": SORTS there are */
    private static void sortsTold() {
        Due.is("sort 0", taken(onePerson(0, 40, 0, 0, 10000, 0, 0), true, "sort 0").who(0, 0), 0);
        Due.is("sort 1", taken(onePerson(1, 40, 0, 0, 10000, 0, 0), true, "sort 1").who(0, 0), 1);
        for (int none : new int[] {2, 3, 4, 128, 255}) {
            taken(onePerson(none, 40, 0, 0, 10000, 0, 0), false, "sort " + none);
        }
        ThreeSizes x = Due.with("sort s off 0 0 0 0 0 wear 0 grow 0 leave 0;");
        Due.tape(x, Due.image(new int[][] {{1, 40, 0, 0, 10000, 0, 0}}, new int[0][]));
        Due.is("sort 1 of one", x.on(), false);
        x = Due.with("fee 1;");
        Due.tape(x, Due.image(new int[][] {{0, 40, 0, 0, 10000, 0, 0}}, new int[0][]));
        Due.is("sort 0 of none", x.on(), false);
    }

    /** SIZES 30 .. 49 */
    private static void sizesTold() {
        for (int size : new int[] {0, 29, 30, 31, 48, 49, 50, 51, 158, 177, 255}) {
            ThreeSizes x = taken(onePerson(0, size, 0, 0, 10000, 0, 0), size >= 30 && size <= 49, "size " + size);
            Due.is("people", x.has(4), size >= 30 && size <= 49 ? 1 : 2);
        }
    }

    /** "each five .. 10000 together" */
    private static void fivesTogether() {
        taken(onePerson(0, 40, 2000, 2000, 2000, 2000, 2000), true, "10000");
        taken(onePerson(0, 40, 2000, 2000, 2000, 2000, 1999), false, "9999");
        taken(onePerson(0, 40, 2000, 2000, 2000, 2000, 2001), false, "10001");
        taken(onePerson(0, 40, 0, 0, 0, 0, 0), false, "0");
        taken(onePerson(0, 40, 10000, 10000, 0, 0, 0), false, "20000");
        taken(onePerson(0, 40, 65535, 10001, 0, 0, 0), false, "65536 and 10000");
        taken(onePerson(0, 40, 65535, 0, 0, 0, 10001), false, "65536 and 10000");
        for (int at = 2; at < 7; at++) {
            int[] person = {0, 40, 0, 0, 0, 0, 0};
            person[at] = 10000;
            taken(onePerson(person), true, "10000 alone");
            person[at] = 9999;
            taken(onePerson(person), false, "9999 alone");
            person[at] = 10001;
            taken(onePerson(person), false, "10001 alone");
        }
        int[] good = {0, 40, 0, 0, 10000, 0, 0};
        int[] bad = {0, 40, 0, 0, 10000, 0, 1};
        taken(Due.image(new int[][] {good, good, good}, RUNS), true, "three of them");
        taken(Due.image(new int[][] {bad, good, good}, RUNS), false, "the first of three");
        taken(Due.image(new int[][] {good, bad, good}, RUNS), false, "the second of three");
        taken(Due.image(new int[][] {good, good, bad}, RUNS), false, "the third of three");
    }

    /** "each three 10000 together" */
    private static void threesTogether() {
        int[][] threes = {{10000, 0, 0}, {0, 10000, 0}, {0, 0, 10000}, {3333, 3333, 3334}, {3333, 3333, 3333},
            {3333, 3334, 3334}, {0, 0, 0}, {65535, 10001, 0}};
        for (int i = 0; i < threes.length; i++) {
            int[] sure = {0, 10000, 0};
            ThreeSizes x = taken(Due.image(new int[0][], new int[][] {threes[i], sure}), i < 4, "three " + i + " of a");
            if (i < 4) {
                Due.runs(x, 0, threes[i]);
            } else {
                Due.runs(x, 0, 2000, 5000, 3000);
            }
            x = taken(Due.image(new int[0][], new int[][] {sure, threes[i]}), i < 4, "three " + i + " of b");
            if (i < 4) {
                Due.runs(x, 1, threes[i]);
            } else {
                Due.runs(x, 1, 0, 10000, 0);
            }
        }
    }

    /** "with as many LASTS" */
    private static void asManyLasts() {
        int[][] people = {{0, 40, 0, 0, 10000, 0, 0}};
        int[] sure = {0, 10000, 0};
        taken(Due.image(people, new int[][] {sure, sure}), true, "two");
        taken(Due.image(people, new int[][] {sure}), false, "one");
        taken(Due.image(people, new int[0][]), false, "none");
        taken(Due.image(people, new int[][] {sure, sure, sure}), false, "three");
        ThreeSizes x = Due.with("sort s off 0 0 0 0 0 wear 0 grow 0 leave 0;");
        Due.tape(x, Due.image(people, new int[0][]));
        Due.is("none for none", x.on(), true);
        Due.tape(x, Due.image(people, new int[][] {sure}));
        Due.is("one for none", x.on(), false);
    }

    /** PEOPLE "(20 at most)": as many as the first byte tells */
    private static void asManyPeople() {
        int[] good = {1, 40, 0, 0, 10000, 0, 0};
        for (int count : new int[] {0, 1, 19, 20, 21, 22, 100, 127}) {
            int[][] people = new int[count][];
            Arrays.fill(people, good);
            ThreeSizes x = taken(Due.image(people, RUNS), count <= 20, count + " people");
            Due.is("people", x.has(4), count <= 20 ? count : 2);
            if (count > 0) {
                byte[] less = Due.image(people, RUNS);
                less[0]--;
                taken(Due.closed(less), false, "one less told");
                less[0] += 2;
                taken(Due.closed(less), false, "one more told");
            }
        }
        byte[] many = Due.image(new int[0][], RUNS);
        many[0] = (byte) 255;
        taken(Due.closed(many), false, "255 told");
    }

    /** "false when it is none": too short, too long, empty, all of the tape */
    private static void lengths() {
        byte[] bytes = imageOf(two());
        for (int length = 0; length < bytes.length; length++) {
            taken(Arrays.copyOf(bytes, length), false, "its first " + length);
            if (length > 0) {
                taken(Due.closed(Arrays.copyOf(bytes, length)), false, "its first " + length + ", closed");
            }
        }
        taken(bytes, true, "all of it");
        taken(Arrays.copyOf(bytes, 39), false, "a byte more");
        taken(Due.closed(Arrays.copyOf(bytes, 39)), false, "a byte more, closed");
        taken(Due.closed(Arrays.copyOf(bytes, 1600)), false, "all of the tape");
    }

    /** "PEOPLE are new ones then"; "PEOPLE (without BOXES, or any that came back) and what is THOUGHT are as it tells" */
    private static void newPeople() {
        ThreeSizes x = two();
        byte[] bytes = imageOf(x);
        x.person(0, 40);
        for (int box = 0; box < 3; box++) {
            x.send(0, 0, 4);
            Due.is("whole", x.back(0, 3), true);
        }
        x.send(1, 1, 4);
        Due.is("kept", x.back(1, 0), true);
        x.send(2, 1, 16);
        Due.is("kept", x.back(2, 2), true);
        Due.is("both kept 42 of b", x.alike(1, 2), 1);
        Due.is("seldom", x.who(0, 7), 1);
        x.send(2, 0, 8);
        Due.is("learnt", x.foot(0, 0) != 4000 && x.last(0, 0) != 5000, true);
        Due.tape(x, bytes);
        Due.is("on()", x.on(), true);
        Due.is("as many as it tells", x.has(4), 2);
        for (int person = 0; person < 2; person++) {
            int[] due = {person, 40 + 2 * person, 0, 0, -1, 0, -1, 0};
            for (int what = 0; what <= 7; what++) {
                Due.is("who(" + person + ", " + what + ")", x.who(person, what), due[what]);
            }
        }
        Due.feet(x, 0, 1000, 2000, 4000, 2000, 1000);
        Due.feet(x, 1, 0, 0, 0, 0, 10000);
        Due.runs(x, 0, RUNS[0]);
        Due.runs(x, 1, RUNS[1]);
        x.person(0, 40);
        Due.is("who kept nothing", x.alike(1, 2), 0);
        Due.is("has no box", x.who(2, 5), 0);
        Due.is("and comes as the third", x.has(4), 3);
    }

    /** "BOXES that are out come to their stock at once" */
    private static void boxesComeAtOnce() {
        ThreeSizes x = two();
        byte[] bytes = imageOf(x);
        x.send(0, 0, 14);
        x.send(1, 1, 5);
        Due.is("out", x.has(8), 2);
        Due.is("a 39", x.stock(0, 39), 2);
        Due.is("b 42", x.stock(1, 42), 1);
        Due.tape(x, bytes);
        Due.is("on()", x.on(), true);
        Due.is("none is out", x.has(8), 0);
        for (int size = 39; size <= 41; size++) {
            Due.is("a " + size, x.stock(0, size), 3);
        }
        Due.is("b 40", x.stock(1, 40), 3);
        Due.is("b 42", x.stock(1, 42), 2);
        Due.is("none is on its way", x.has(10), 0);
        x.days(7);
        Due.is("nor comes twice", x.stock(0, 40), 3);
        Due.is("earned by none", x.earned(), 0);
        Due.is("each may have a box", x.send(0, 0, 14), 1);
    }

    /** "no THE TRUTH of PEOPLE" */
    private static void noTruthOfPeople() {
        ThreeSizes x = two();
        byte[] bytes = imageOf(x);
        x.draw(5);
        int[] runs = {x.truth(0), x.truth(1)};
        Due.is("a foot", x.who(0, 6) >= 0, true);
        Due.tape(x, bytes);
        Due.is("on()", x.on(), true);
        Due.is("none of 0", x.who(0, 6), -1);
        Due.is("none of 1", x.who(1, 6), -1);
        Due.is("that of a stays", x.truth(0), runs[0]);
        Due.is("that of b stays", x.truth(1), runs[1]);
        Due.is("no trial", x.trial(0, 0, 0), -1);
    }

    /** "false when it is none (all stays)" */
    private static void allStays() {
        byte[][] none = {{}, {0}, {0, 65}, Due.image(new int[][] {{0, 40, 0, 0, 10001, 0, 0}}, RUNS),
            Due.image(new int[][] {{0, 45, 0, 0, 10000, 0, 0}}, new int[][] {{0, 10000, 0}, {0, 0, 1}}),
            Due.image(new int[][] {{0, 45, 0, 0, 10000, 0, 0}, {2, 45, 0, 0, 10000, 0, 0}}, RUNS)};
        for (byte[] bytes : none) {
            ThreeSizes x = two();
            Due.rule(x, 0, "send up when all;");
            x.send(0, 0, 4);
            x.send(1, 1, 4);
            x.back(0, 0);
            x.draw(3);
            x.days(2);
            String seen = Due.seen(x);
            Due.tape(x, bytes);
            Due.is("none", x.on(), false);
            Due.same("all stays", Due.seen(x), seen);
            Due.is("the tape went", x.end(1), false);
        }
    }

    /** An image tells of people and what is thought alone: day, money, fee, rules, what is on its way stay */
    private static void whatAnImageLeaves() {
        ThreeSizes x = two();
        byte[] bytes = imageOf(x);
        Due.rule(x, 1, "send up when all;");
        x.fee(9);
        x.send(0, 0, 6);
        x.back(0, 0);
        x.days(3);
        Due.house(x, "?");
        int earned = x.earned();
        Due.tape(x, bytes);
        Due.is("on()", x.on(), true);
        int[] due = {2, 2, 0, 1, 2, 5, 0, 9, 0, 3, 1};
        for (int what = 0; what <= 10; what++) {
            Due.is("has(" + what + ")", x.has(what), due[what]);
        }
        Due.is("earned", x.earned(), earned);
        Due.is("the rule", x.box(1, 0, 0), 16);
        Due.is("the fault", x.fault(0), 1);
        Due.is("40 was kept", x.stock(0, 40), 2);
        x.days(4);
        Due.is("39 comes a week later", x.stock(0, 39), 3);
    }
}
