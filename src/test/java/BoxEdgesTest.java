/**
 * The document's sentences on people, boxes and what is learnt of them (Terms II; promises 9 to 24)
 * that name an edge, each with both sides of it. The sentence stands above its test.
 */
public final class BoxEdgesTest {
    private static final int NOTHING = ThreeSizes.NOTHING;
    private static final long ALL = 1000000000000L;
    private static final String S = "sort s off 0 0 0 0 0 wear 0 grow 0 leave 0;";
    private static final String KEEPS = "keeps 0 0 100 0 0;";
    private static final int[] ODD = {Integer.MIN_VALUE, -1000000, 1000000, Integer.MAX_VALUE};

    public static void main(String[] args) {
        twentyPeople();
        sizesAsked();
        feetAsked();
        runsAsked();
        whoAsked();
        oneToThreePairs();
        allWithin30To49();
        pleasesByFit();
        theSmallestOfLikeOnes();
        threePairs();
        wear();
        weightsTogether();
        outcomes();
        ifThereAreOthers();
        meanIsRoundedDown();
        meanIsExact();
        zeroAtLeast();
        orderedIsRoundedDown();
        fewestPairs();
        leastBits();
        allInStock();
        noBest();
        pairsAreTaken();
        oneBoxAtATime();
        notInStock();
        sevenDays();
        placesOfTheStock();
        numbersOfDays();
        learntIsRoundedDown();
        theFirstOfLikeOnes();
        theFirstOfLikeRuns();
        noWeightAtAll();
        theLeastWeight();
        oneAfterTheOther();
        backThatCantBe();
        stocksAsked();
        earned();
        Due.rest("BoxEdgesTest");
    }

    private static String last(String name, int price) {
        return "last " + name + " price " + price + " runs 0 0 0;";
    }

    private static String stock(String name, int from, int to, int pairs) {
        StringBuilder text = new StringBuilder();
        for (int size = from; size <= to; size++) {
            text.append("stock ").append(name).append(' ').append(size).append(' ').append(pairs).append(';');
        }
        return text.toString();
    }

    /** "PEOPLE (20 at most)"; "person(): .. its number; NONE when something can't be, or there are 20" */
    private static void twentyPeople() {
        ThreeSizes x = Due.with(S + "sort t off 0 0 0 0 0 wear 0 grow 0 leave 0;");
        for (int i = 0; i < 20; i++) {
            Due.is("person " + i, x.person(i % 2, 30 + i), i);
            Due.is("people", x.has(4), i + 1);
        }
        Due.is("the 21st", x.person(0, 40), -1);
        Due.is("twenty", x.has(4), 20);
        for (int i = 0; i < 20; i++) {
            Due.is("sort of " + i, x.who(i, 0), i % 2);
            Due.is("size of " + i, x.who(i, 1), 30 + i);
        }
        Due.is("the next house has none", Due.house(x, S), 1);
        Due.is("so there is room", x.person(0, 40), 0);
        Due.is("no sorts", new ThreeSizes().person(0, 40), -1);
    }

    /** "ask for a SIZE, 30 .. 49"; "are of a SORT" */
    private static void sizesAsked() {
        ThreeSizes x = Due.with(S);
        for (int size : new int[] {29, 50, 0, -40, Integer.MIN_VALUE, Integer.MAX_VALUE}) {
            Due.is("size " + size, x.person(0, size), -1);
        }
        for (int sort : new int[] {-1, 1, 4, Integer.MIN_VALUE, Integer.MAX_VALUE}) {
            Due.is("sort " + sort, x.person(sort, 40), -1);
        }
        Due.is("none yet", x.has(4), 0);
        Due.is("size 30", x.person(0, 30), 0);
        Due.is("size 49", x.person(0, 49), 1);
    }

    /** "foot(person, d): .. d sizes (-2 .. 2) from what was asked; NONE when there is none such" */
    private static void feetAsked() {
        ThreeSizes x = Due.with("sort s off 1 2 90 3 4 wear 0 grow 0 leave 0;");
        x.person(0, 40);
        Due.feet(x, 0, 100, 200, 9000, 300, 400);
        for (int none : new int[] {-3, 3, Integer.MIN_VALUE, Integer.MAX_VALUE}) {
            Due.is("foot " + none, x.foot(0, none), -1);
        }
        for (int none : new int[] {-1, 1, 20, Integer.MIN_VALUE, Integer.MAX_VALUE}) {
            Due.is("person " + none, x.foot(none, 0), -1);
        }
    }

    /** "last(last, run): THOUGHT of a LAST, run -1 .. 1; NONE when there is none such" */
    private static void runsAsked() {
        ThreeSizes x = Due.with("last a price 1 runs 1 97 2;");
        Due.runs(x, 0, 100, 9700, 200);
        for (int none : new int[] {-2, 2, Integer.MIN_VALUE, Integer.MAX_VALUE}) {
            Due.is("run " + none, x.last(0, none), -1);
        }
        for (int none : new int[] {-1, 1, 8, Integer.MIN_VALUE, Integer.MAX_VALUE}) {
            Due.is("last " + none, x.last(none, 0), -1);
        }
    }

    /** "who(person, what): .. 4 the LAST of the BOX that is out (NONE without), 5 its bits (0 without) .. NONE when there is none such, or for others" */
    private static void whoAsked() {
        ThreeSizes x = Due.with(last("a", 1) + last("b", 1) + S + KEEPS + stock("b", 40, 41, 9));
        x.person(0, 40);
        int[] without = {0, 40, 0, 0, -1, 0, -1, 0};
        int[] out = {0, 40, 0, 0, 1, 12, -1, 0};
        int[] kept = {0, 40, 1, 0, -1, 0, -1, 0};
        for (int what = 0; what <= 7; what++) {
            Due.is("who " + what, x.who(0, what), without[what]);
        }
        x.send(0, 1, 12);
        for (int what = 0; what <= 7; what++) {
            Due.is("who with a box " + what, x.who(0, what), out[what]);
        }
        x.back(0, 0);
        for (int what = 0; what <= 7; what++) {
            Due.is("who kept one " + what, x.who(0, what), kept[what]);
        }
        for (int none : new int[] {-1, 8, Integer.MIN_VALUE, Integer.MAX_VALUE}) {
            Due.is("what " + none, x.who(0, none), -1);
        }
        for (int none : new int[] {-1, 1, 20, Integer.MIN_VALUE, Integer.MAX_VALUE}) {
            Due.is("person " + none, x.who(none, 0), -1);
        }
    }

    /** Every call that is asked of a box answers that it can't be. */
    private static void cantBe(ThreeSizes x, int person, int last, int bits) {
        String box = " of " + person + ", " + last + ", " + bits;
        Due.is("keeps" + box, x.keeps(person, last, bits, 3), -1);
        Due.is("after" + box, x.after(person, last, bits, 3, 0), -1);
        Due.is("teaches" + box, x.teaches(person, last, bits, 3, 0), -1);
        Due.is("mean" + box, x.mean(person, last, bits, false), NOTHING);
        Due.is("ordered mean" + box, x.mean(person, last, bits, true), NOTHING);
        Due.is("send" + box, x.send(person, last, bits), -1);
        Due.is("step" + box, x.step(person, last, bits), -1);
        Due.is("none is out" + box, x.has(8), 0);
    }

    private static void canBe(ThreeSizes x, int person, int last, int bits) {
        String box = " of " + person + ", " + last + ", " + bits;
        Due.is("keeps" + box, x.keeps(person, last, bits, 3) >= 0, true);
        Due.is("after" + box, x.after(person, last, bits, 3, 0) >= 0, true);
        Due.is("teaches" + box, x.teaches(person, last, bits, 3, 0) >= 0, true);
        Due.is("mean" + box, x.mean(person, last, bits, false) > NOTHING, true);
        Due.is("ordered mean" + box, x.mean(person, last, bits, true) > NOTHING, true);
        Due.is("step" + box, x.step(person, last, bits) >= 0, true);
        Due.is("send" + box, x.send(person, last, bits), 1);
        Due.is("back" + box, x.back(person, 3), true);
    }

    /** "A BOX .. with 1 to 3 SIZES, told as bits (1 for 2 below what is asked, 2, 4, 8, 16 for 2 above)" */
    private static void oneToThreePairs() {
        String text = last("a", 1) + "sort s off 20 20 20 20 20 wear 50 grow 0 leave 0;keeps 50 50 50 50 50;"
                + stock("a", 38, 42, 99);
        ThreeSizes x = Due.with(text);
        x.person(0, 40);
        int boxes = 0;
        for (int bits = 1; bits <= 31; bits++) {
            if (Integer.bitCount(bits) <= 3) {
                canBe(x, 0, 0, bits);
                boxes++;
            }
        }
        Due.is("boxes of 1 to 3 of 5", boxes, 25);
        for (int bits : new int[] {0, 15, 23, 27, 29, 30, 31, 32, 33, 36, 64, -1, -4, -32, Integer.MIN_VALUE,
            Integer.MIN_VALUE + 4, Integer.MAX_VALUE, 1 << 30}) {
            x = Due.with(text);
            x.person(0, 40);
            cantBe(x, 0, 0, bits);
        }
        for (int none : new int[] {-1, 1, 8, 20, Integer.MIN_VALUE, Integer.MAX_VALUE}) {
            x = Due.with(text);
            x.person(0, 40);
            cantBe(x, none, 0, 4);
            cantBe(x, 0, none, 4);
        }
    }

    /** "all 30 .. 49" */
    private static void allWithin30To49() {
        String text = last("a", 1) + S + "keeps 50 50 50 50 50;" + stock("a", 30, 49, 9);
        int[] sizes = {30, 31, 32, 47, 48, 49};
        int[] within = {28, 30, 31, 31, 15, 7};
        for (int i = 0; i < sizes.length; i++) {
            ThreeSizes x = Due.with(text);
            x.person(0, sizes[i]);
            for (int e = 0; e < 5; e++) {
                if ((within[i] >> e & 1) == 1) {
                    canBe(x, 0, 0, 1 << e);
                } else {
                    cantBe(x, 0, 0, 1 << e);
                    cantBe(x, 0, 0, 1 << e | 4);
                }
            }
        }
    }

    /** "a pair of the size e .. is too large by e + r - d; it PLEASES as keeps tells (0 for more than 2)" */
    private static void pleasesByFit() {
        int[] pleases = {11, 22, 33, 44, 55};
        for (int d = -2; d <= 2; d++) {
            for (int r = -1; r <= 1; r++) {
                int[] person = {0, 40, 0, 0, 0, 0, 0};
                int[] runs = new int[3];
                person[d + 4] = 10000;
                runs[r + 1] = 10000;
                ThreeSizes x = Due.with(last("a", 100) + S + "keeps 11 22 33 44 55;");
                Due.think(x, new int[][] {person}, new int[][] {runs});
                for (int e = -2; e <= 2; e++) {
                    int tooLarge = e + r - d;
                    long due = tooLarge < -2 || tooLarge > 2 ? 0 : pleases[tooLarge + 2] * ALL / 100;
                    Due.is("kept, e " + e + " r " + r + " d " + d, x.keeps(0, 0, 1 << e + 2, e), due);
                    Due.is("none, e " + e + " r " + r + " d " + d, x.keeps(0, 0, 1 << e + 2, 3), ALL - due);
                    Due.is("mean, e " + e + " r " + r + " d " + d, x.mean(0, 0, 1 << e + 2, false), due * 10000 / ALL);
                }
            }
        }
    }

    /** "The best one of the BOX is that which PLEASES most, of like ones the smallest." */
    private static void theSmallestOfLikeOnes() {
        ThreeSizes x = Due.with(last("a", 1) + S + "keeps 50 50 50 50 50;");
        x.person(0, 40);
        for (int bits = 1; bits <= 31; bits++) {
            if (Integer.bitCount(bits) <= 3) {
                int smallest = Integer.numberOfTrailingZeros(bits) - 2;
                for (int e = -2; e <= 2; e++) {
                    if ((bits >> e + 2 & 1) == 1) {
                        Due.is("pair " + e + " of " + bits, x.keeps(0, 0, bits, e), e == smallest ? ALL / 2 : 0);
                    }
                }
            }
        }
        x = Due.with(last("a", 1) + S + "keeps 0 50 49 50 0;");
        x.person(0, 40);
        Due.is("the smaller of 1 below and 1 above", x.keeps(0, 0, 14, -1), ALL / 2);
        Due.is("the larger", x.keeps(0, 0, 14, 1), 0);
        Due.is("the one that fits", x.keeps(0, 0, 14, 0), 0);
        x = Due.with(last("a", 1) + S + "keeps 0 50 51 50 0;");
        x.person(0, 40);
        Due.is("one more of 100", x.keeps(0, 0, 14, 0), 510000000000L);
        Due.is("the smaller", x.keeps(0, 0, 14, -1), 0);
    }

    /** Three pairs: of those that please none the smallest is the best one, with no chance */
    private static void threePairs() {
        ThreeSizes x = Due.with(last("a", 1) + S);
        x.person(0, 40);
        Due.is("none pleases", x.keeps(0, 0, 7, -2) + x.keeps(0, 0, 7, -1) + x.keeps(0, 0, 7, 0), 0);
        Due.is("none is kept", x.keeps(0, 0, 7, 3), ALL);
    }

    /** "It is KEPT with PLEASES times (100 - wear of the SORT) of 10000; else all come back." */
    private static void wear() {
        int[] wears = {0, 1, 99, 100};
        long[] due = {ALL, ALL / 100 * 99, ALL / 100, 0};
        for (int i = 0; i < wears.length; i++) {
            ThreeSizes x = Due.with(last("a", 1) + "sort s off 0 0 0 0 0 wear " + wears[i] + " grow 0 leave 0;" + KEEPS
                    + stock("a", 40, 40, 9));
            x.person(0, 40);
            Due.is("kept, wear " + wears[i], x.keeps(0, 0, 4, 0), due[i]);
            Due.is("none, wear " + wears[i], x.keeps(0, 0, 4, 3), ALL - due[i]);
            x.send(0, 0, 4);
            Due.is("kept can come, wear " + wears[i], x.back(0, 0), i < 3);
            x.send(0, 0, 4);
            Due.is("none can come, wear " + wears[i], x.back(0, 3), i > 0);
        }
        ThreeSizes x = Due.with(last("a", 1) + "sort s off 0 0 0 0 0 wear 99 grow 0 leave 0;keeps 0 0 1 0 0;");
        x.person(0, 40);
        Due.is("one of 10000", x.keeps(0, 0, 4, 0), ALL / 10000);
    }

    /** "WEIGHTS of what comes .. together (of 10 to the 12)" */
    private static void weightsTogether() {
        ThreeSizes x = Due.with("last a price 1 runs 20 50 30;sort s off 10 20 40 20 10 wear 13 grow 0 leave 0;"
                + "keeps 7 31 83 47 19;");
        x.person(0, 40);
        for (int bits = 1; bits <= 31; bits++) {
            if (Integer.bitCount(bits) <= 3) {
                long together = x.keeps(0, 0, bits, 3);
                for (int e = -2; e <= 2; e++) {
                    together += (bits >> e + 2 & 1) == 1 ? x.keeps(0, 0, bits, e) : 0;
                }
                Due.is("all of " + bits, together, ALL);
            }
        }
    }

    /** "a pair (e -2 .. 2, in the BOX) is KEPT, or none (e 3); -1 when something can't be" */
    private static void outcomes() {
        ThreeSizes x = Due.with(last("a", 1) + "sort s off 20 20 20 20 20 wear 50 grow 0 leave 0;keeps 50 50 50 50 50;");
        x.person(0, 40);
        int[] outcomes = {-4, -3, -2, -1, 0, 1, 2, 3, 4, 5, 35, Integer.MIN_VALUE, Integer.MIN_VALUE + 3,
            Integer.MAX_VALUE};
        for (int bits : new int[] {17, 4, 10}) {
            for (int e : outcomes) {
                boolean can = e == 3 || e >= -2 && e <= 2 && (bits >> e + 2 & 1) == 1;
                Due.is("keeps of " + bits + ", " + e, x.keeps(0, 0, bits, e) != -1, can);
                Due.is("after of " + bits + ", " + e, x.after(0, 0, bits, e, 0) != -1, can);
                Due.is("teaches of " + bits + ", " + e, x.teaches(0, 0, bits, e, 0) != -1, can);
            }
        }
        for (int none : new int[] {-3, 3, Integer.MIN_VALUE, Integer.MAX_VALUE}) {
            Due.is("after, d " + none, x.after(0, 0, 4, 3, none), -1);
        }
        for (int none : new int[] {-2, 2, Integer.MIN_VALUE, Integer.MAX_VALUE}) {
            Due.is("teaches, run " + none, x.teaches(0, 0, 4, 3, none), -1);
        }
    }

    /** "of one KEPT: the price, less a fare, less another one and a wipe for each other pair, if there are others; of none: the fee, less two fares and a wipe for each pair" */
    private static void ifThereAreOthers() {
        String text = last("a", 1000) + "sort s off 0 0 0 0 0 wear 0 grow 0 leave 0;"
                + "sort t off 0 0 0 0 0 wear 100 grow 0 leave 0;" + KEEPS + "fare 100;wipe 10;fee 1;"
                + stock("a", 38, 42, 9);
        int[] bits = {4, 12, 14};
        int[] kept = {900, 790, 780};
        int[] none = {-209, -219, -229};
        for (int i = 0; i < 3; i++) {
            ThreeSizes x = Due.with(text);
            x.person(0, 40);
            x.person(1, 40);
            Due.is("mean of one kept of " + (i + 1), x.mean(0, 0, bits[i], false), 100 * kept[i]);
            Due.is("mean of none of " + (i + 1), x.mean(1, 0, bits[i], false), 100 * none[i]);
            x.send(0, 0, bits[i]);
            x.back(0, 0);
            Due.is("earned by one of " + (i + 1), x.earned(), kept[i]);
            x.send(1, 0, bits[i]);
            x.back(1, 3);
            Due.is("earned by none of " + (i + 1), x.earned(), kept[i] + none[i]);
        }
    }

    /** "MEAN of a BOX, in hundredths: floor(..)" */
    private static void meanIsRoundedDown() {
        // A chance of 1 of 10000 to be kept, which brings 1 more, 1 less than none.
        String rare = "sort s off 0 0 0 0 0 wear 99 grow 0 leave 0;keeps 0 0 1 0 0;";
        ThreeSizes x = Due.with(last("a", 1) + rare);
        x.person(0, 40);
        Due.is("0.0001", x.mean(0, 0, 4, false), 0);
        x = Due.with(last("a", 0) + rare + "fee 1;");
        x.person(0, 40);
        Due.is("0.9999", x.mean(0, 0, 4, false), 99);
        x = Due.with(last("a", 0) + rare + "fare 1;fee 2;");
        x.person(0, 40);
        Due.is("-0.0001", x.mean(0, 0, 4, false), -1);
        x = Due.with(last("a", 2) + rare + "fare 1;fee 1;");
        x.person(0, 40);
        Due.is("-0.9998", x.mean(0, 0, 4, false), -100);
        x = Due.with(last("a", 101) + rare + "fare 1;fee 2;");
        x.person(0, 40);
        Due.is("0.01", x.mean(0, 0, 4, false), 1);
        x = Due.with(last("a", 100) + rare + "fare 1;fee 2;");
        x.person(0, 40);
        Due.is("0.0099", x.mean(0, 0, 4, false), 0);
    }

    /** MEAN where nothing is to be rounded: certain and even chances, the greatest numbers */
    private static void meanIsExact() {
        ThreeSizes x = Due.with(last("a", 0) + S + "keeps 0 0 50 0 0;fee 99;");
        x.person(0, 40);
        Due.is("half of 99", x.mean(0, 0, 4, false), 4950);
        Due.is("all of 99", x.mean(0, 0, 1, false), 9900);
        x = Due.with(last("a", 9999) + S + "keeps 0 0 100 0 0;");
        x.person(0, 40);
        Due.is("the most", x.mean(0, 0, 4, false), 999900);
        Due.is("nothing", x.mean(0, 0, 1, false), 0);
        x = Due.with(last("a", 0) + S + "keeps 0 0 100 0 0;fare 9999;wipe 9999;");
        x.person(0, 40);
        Due.is("the least", x.mean(0, 0, 11, false), -4999500);
        Due.is("the least of one kept", x.mean(0, 0, 7, false), -3999600);
        x = Due.with("last a price 100 runs 25 50 25;sort s off 25 25 0 25 25 wear 50 grow 0 leave 0;"
                + "keeps 0 0 100 0 0;");
        x.person(0, 40);
        // Fits where d is r: a quarter of a quarter, twice, with an even chance.
        Due.is("a sixteenth", x.mean(0, 0, 4, false), 625);
    }

    /** "With a fee only (100 - leave times fee) of 100 order at all (0 at least)" */
    private static void zeroAtLeast() {
        ThreeSizes x = Due.with(last("a", 100) + "sort s off 0 0 0 0 0 wear 0 grow 0 leave 50;"
                + "sort t off 0 0 0 0 0 wear 0 grow 0 leave 100;sort u off 0 0 0 0 0 wear 0 grow 0 leave 0;"
                + "sort v off 0 0 0 0 0 wear 0 grow 0 leave 1;" + KEEPS);
        for (int sort = 0; sort < 4; sort++) {
            x.person(sort, 40);
        }
        int[] fees = {0, 1, 2, 3, 98, 99};
        int[][] due = {{10000, 10000, 10000, 10000}, {5000, 0, 10000, 9900}, {0, 0, 10000, 9800}, {0, 0, 10000, 9700},
            {0, 0, 10000, 200}, {0, 0, 10000, 100}};
        for (int i = 0; i < fees.length; i++) {
            x.fee(fees[i]);
            for (int person = 0; person < 4; person++) {
                Due.is("person " + person + ", fee " + fees[i], x.mean(person, 0, 4, true), due[i][person]);
                Due.is("mean stays", x.mean(person, 0, 4, false), 10000);
            }
        }
    }

    /** "ORDERED MEAN is floor(MEAN times that / 100)" */
    private static void orderedIsRoundedDown() {
        String half = "sort s off 0 0 0 0 0 wear 99 grow 0 leave 50;keeps 0 0 1 0 0;";
        ThreeSizes x = Due.with(last("a", 101) + half + "fare 1;fee 1;wipe 0;");
        x.person(0, 40);
        // 0.0001 * 100 + 0.9999 * -1 = -0.9899
        Due.is("mean", x.mean(0, 0, 4, false), -99);
        Due.is("half of -99", x.mean(0, 0, 4, true), -50);
        x = Due.with(last("a", 0) + half + "fee 1;");
        x.person(0, 40);
        Due.is("mean", x.mean(0, 0, 4, false), 99);
        Due.is("half of 99", x.mean(0, 0, 4, true), 49);
        x = Due.with(last("a", 0) + half + "fare 1;fee 2;");
        x.person(0, 40);
        Due.is("mean", x.mean(0, 0, 4, false), -1);
        Due.is("none of -1", x.mean(0, 0, 4, true), 0);
        x.fee(1);
        Due.is("mean", x.mean(0, 0, 4, false), -100);
        Due.is("half of -100", x.mean(0, 0, 4, true), -50);
    }

    /** "The BEST BOX .. with the greatest MEAN, of like ones with the fewest pairs" */
    private static void fewestPairs() {
        ThreeSizes x = Due.with(last("a", 100) + S + KEEPS + stock("a", 38, 42, 9));
        x.person(0, 40);
        Due.is("4, though 5 is no worse", x.best(0, 0, false), 4);
        Due.is("no worse", x.mean(0, 0, 5, false), x.mean(0, 0, 4, false));
        x = Due.with(last("a", 100) + "sort s off 0 50 0 50 0 wear 0 grow 0 leave 0;" + KEEPS + stock("a", 38, 42, 9));
        x.person(0, 40);
        Due.is("10, though 11 is no worse", x.best(0, 0, false), 10);
        Due.is("no worse", x.mean(0, 0, 11, false), x.mean(0, 0, 10, false));
        x = Due.with(last("a", 100) + "sort s off 34 0 33 0 33 wear 0 grow 0 leave 0;" + KEEPS + stock("a", 38, 42, 9));
        x.person(0, 40);
        Due.is("three", x.best(0, 0, false), 21);
        Due.is("its mean", x.best(0, 0, true), 10000);
        x = Due.with(last("a", 100) + "sort s off 34 0 33 0 33 wear 0 grow 0 leave 0;" + KEEPS + "wipe 50;"
                + stock("a", 38, 42, 9));
        x.person(0, 40);
        // Alone 38 brings 0.34 * 100 - 0.66 * 50 = 1, the others 0.33 * 100 - 0.67 * 50 = -0.5, with
        // another one 0.67 * 50 - 0.33 * 100 = 0.5, all three 0.
        Due.is("one", x.best(0, 0, false), 1);
        Due.is("its mean", x.best(0, 0, true), 100);
    }

    /** "then with the least bits" */
    private static void leastBits() {
        String text = last("a", 100) + "sort s off 50 0 0 0 50 wear 0 grow 0 leave 0;keeps 0 100 100 100 0;";
        int[][] stocked = {{38, 39, 41, 42}, {39, 41, 42}, {38, 39, 42}, {39, 42}, {38, 41, 42}};
        int[] due = {9, 10, 17, 18, 9};
        for (int i = 0; i < due.length; i++) {
            StringBuilder all = new StringBuilder(text);
            for (int size : stocked[i]) {
                all.append(stock("a", size, size, 1));
            }
            ThreeSizes x = Due.with(all.toString());
            x.person(0, 40);
            Due.is("two that please both feet", x.best(0, 0, false), due[i]);
            Due.is("their mean", x.best(0, 0, true), 10000);
        }
        ThreeSizes x = Due.with(last("a", 0) + S + stock("a", 38, 42, 1));
        x.person(0, 40);
        Due.is("all alike", x.best(0, 0, false), 1);
        x = Due.with(last("a", 0) + S + stock("a", 30, 49, 1));
        x.person(0, 30);
        x.person(0, 31);
        x.person(0, 49);
        Due.is("all alike from 30 on", x.best(0, 0, false), 4);
        Due.is("all alike from 30 on, 31 asked", x.best(1, 0, false), 2);
        Due.is("all alike up to 49", x.best(2, 0, false), 1);
    }

    /** "of all BOXES all of whose pairs are in stock" */
    private static void allInStock() {
        ThreeSizes x = Due.with(last("a", 100) + last("b", 100) + "sort s off 0 50 0 50 0 wear 0 grow 0 leave 0;" + KEEPS
                + stock("a", 39, 39, 1) + stock("a", 41, 41, 1) + stock("b", 41, 41, 1));
        x.person(0, 40);
        x.person(0, 42);
        Due.is("both", x.best(0, 0, false), 10);
        Due.is("of b one", x.best(0, 1, false), 8);
        x.send(1, 0, 2);
        Due.is("41 is out", x.best(0, 0, false), 2);
        x.back(1, 3);
        Due.is("and still on its way", x.best(0, 0, false), 2);
        x.days(7);
        Due.is("both again", x.best(0, 0, false), 10);
        x.send(0, 0, 10);
        Due.is("none, one's own being out", x.best(0, 0, false), 0);
    }

    /** "best(): .. its bits (mean false; 0 when none is in stock), or its MEAN (NOTHING without one); NONE (NOTHING) when there is none such" */
    private static void noBest() {
        ThreeSizes x = Due.with(last("a", 100) + S + KEEPS + stock("a", 42, 42, 1));
        x.person(0, 39);
        x.person(0, 40);
        Due.is("3 above is out of reach", x.best(0, 0, false), 0);
        Due.is("no mean", x.best(0, 0, true), NOTHING);
        Due.is("2 above is not", x.best(1, 0, false), 16);
        Due.is("mean", x.best(1, 0, true), 0);
        for (int none : new int[] {-1, 2, 8, 20, Integer.MIN_VALUE, Integer.MAX_VALUE}) {
            Due.is("person " + none, x.best(none, 0, false), -1);
            Due.is("person " + none, x.best(none, 0, true), NOTHING);
            Due.is("last " + none, x.best(1, none, false), -1);
            Due.is("last " + none, x.best(1, none, true), NOTHING);
        }
        Due.is("last 1", x.best(1, 1, false), -1);
    }

    /** "SENT: its pairs are taken from the stock"; "send(): .. how many BOXES are out" */
    private static void pairsAreTaken() {
        ThreeSizes x = Due.with(last("a", 1) + last("b", 1) + S + KEEPS + stock("a", 38, 42, 2) + stock("b", 38, 42, 2));
        for (int i = 0; i < 3; i++) {
            x.person(0, 40);
        }
        Due.is("one", x.send(0, 0, 21), 1);
        Due.is("two", x.send(1, 0, 1), 2);
        Due.is("three", x.send(2, 1, 16), 3);
        int[] a = {0, 2, 1, 2, 1};
        int[] b = {2, 2, 2, 2, 1};
        for (int i = 0; i < 5; i++) {
            Due.is("a " + (38 + i), x.stock(0, 38 + i), a[i]);
            Due.is("b " + (38 + i), x.stock(1, 38 + i), b[i]);
        }
        x.back(0, 0);
        Due.is("two are out", x.has(8), 2);
        Due.is("three again", x.send(0, 1, 4), 3);
    }

    /** "(a PERSON has one BOX at a time)"; "send(): .. NONE when .. the PERSON has one" */
    private static void oneBoxAtATime() {
        ThreeSizes x = Due.with(last("a", 1) + last("b", 1) + S + KEEPS + stock("a", 38, 42, 2) + stock("b", 38, 42, 2));
        x.person(0, 40);
        x.person(0, 40);
        x.send(0, 0, 4);
        String seen = Due.seen(x);
        Due.is("the same one", x.send(0, 0, 4), -1);
        Due.is("another one", x.send(0, 0, 2), -1);
        Due.is("of another last", x.send(0, 1, 4), -1);
        Due.same("nothing happened", Due.seen(x), seen);
        Due.is("someone else", x.send(1, 0, 4), 2);
        x.back(0, 0);
        Due.is("behind it", x.send(0, 1, 4), 2);
    }

    /** "send(): .. NONE when .. a pair is not in stock" */
    private static void notInStock() {
        ThreeSizes x = Due.with(last("a", 1) + last("b", 1) + S + KEEPS + stock("a", 39, 41, 1) + stock("b", 38, 42, 1));
        x.person(0, 40);
        x.person(0, 41);
        String seen = Due.seen(x);
        for (int bits : new int[] {1, 16, 3, 5, 9, 18, 20, 24, 11, 28, 17, 21}) {
            Due.is("box " + bits, x.send(0, 0, bits), -1);
        }
        Due.same("nothing happened", Due.seen(x), seen);
        Due.is("all three that are", x.send(0, 0, 14), 1);
        Due.is("the last 40 went", x.send(1, 0, 2), -1);
        Due.is("40 of b", x.send(1, 1, 2), 2);
    }

    /** "other pairs are in stock again 7 days later" */
    private static void sevenDays() {
        for (int first : new int[] {1, 2, 6, 7, 8, 13, 100}) {
            ThreeSizes x = Due.with(last("a", 1) + S + KEEPS + stock("a", 38, 42, 1));
            x.person(0, 40);
            Due.is("days ahead", x.days(first), first);
            x.send(0, 0, 21);
            x.back(0, 0);
            Due.is("on the way", x.has(10), 2);
            Due.is("six days", x.days(6), first + 6);
            Due.is("38 after six days", x.stock(0, 38), 0);
            Due.is("42 after six days", x.stock(0, 42), 0);
            Due.is("still on the way", x.has(10), 2);
            Due.is("the seventh", x.days(1), first + 7);
            Due.is("38 after seven days", x.stock(0, 38), 1);
            Due.is("40 was kept", x.stock(0, 40), 0);
            Due.is("42 after seven days", x.stock(0, 42), 1);
            Due.is("none on the way", x.has(10), 0);
            x.days(7);
            Due.is("once", x.stock(0, 38), 1);
        }
        ThreeSizes x = Due.with(last("a", 1) + S + stock("a", 38, 42, 1));
        x.person(0, 40);
        for (int day = 0; day < 5; day++) {
            x.send(0, 0, 1 << day);
            x.back(0, 3);
            x.days(1);
        }
        Due.is("five on the way", x.has(10), 5);
        x.days(1);
        for (int day = 0; day < 5; day++) {
            Due.is("not yet", x.stock(0, 38 + day), 0);
            x.days(1);
            Due.is("day " + (7 + day), x.stock(0, 38 + day), 1);
            Due.is("on the way", x.has(10), 4 - day);
        }
        x.send(0, 0, 7);
        x.back(0, 3);
        Due.is("all at once", x.days(100), 111);
        Due.is("38", x.stock(0, 38), 1);
        Due.is("none on the way", x.has(10), 0);
    }

    /** Each of 8 lasts has a stock of its own of each of 20 sizes: taken from it, and back to it */
    private static void placesOfTheStock() {
        StringBuilder text = new StringBuilder(S);
        for (char name = 'a'; name <= 'h'; name++) {
            text.append(last(String.valueOf(name), 1)).append(stock(String.valueOf(name), 30, 30, 3))
                    .append(stock(String.valueOf(name), 49, 49, 2));
        }
        ThreeSizes x = Due.with(text.toString());
        x.person(0, 32);
        x.person(0, 47);
        for (int last = 0; last < 8; last++) {
            Due.is("30", x.stock(last, 30), 3);
            Due.is("49", x.stock(last, 49), 2);
            Due.is("send 30", x.send(0, last, 1), 1);
            Due.is("send 49", x.send(1, last, 16), 2);
            Due.is("30 is taken", x.stock(last, 30), 2);
            Due.is("49 is taken", x.stock(last, 49), 1);
            x.back(0, 3);
            x.back(1, 3);
        }
        Due.is("sixteen", x.has(10), 16);
        x.days(7);
        for (int last = 0; last < 8; last++) {
            Due.is("30 again", x.stock(last, 30), 3);
            Due.is("49 again", x.stock(last, 49), 2);
            Due.is("31 never", x.stock(last, 31) + x.stock(last, 48), 0);
        }
    }

    /** "days(n): So many days go by (1 .. 100): which day it is; NONE for others." */
    private static void numbersOfDays() {
        ThreeSizes x = new ThreeSizes();
        for (int none : new int[] {0, -1, 101, Integer.MIN_VALUE, Integer.MAX_VALUE}) {
            Due.is("days(" + none + ")", x.days(none), -1);
            Due.is("no day went by", x.has(9), 0);
        }
        Due.is("days(1)", x.days(1), 1);
        Due.is("days(100)", x.days(100), 101);
        Due.is("days(99)", x.days(99), 200);
        Due.is("the day", x.has(9), 200);
    }

    /** "LEARNT: each number becomes floor(10000 times ..); what lacks to 10000 comes to the greatest one" */
    private static void learntIsRoundedDown() {
        ThreeSizes x = Due.with(last("a", 1) + "sort s off 10 20 30 25 15 wear 0 grow 0 leave 0;keeps 100 100 100 100 100;"
                + stock("a", 40, 40, 9));
        x.person(0, 40);
        // All feet please alike: nothing is learnt.
        int[] same = {1000, 2000, 3000, 2500, 1500};
        for (int d = -2; d <= 2; d++) {
            Due.is("as it was, d " + d, x.after(0, 0, 4, 0, d), same[d + 2]);
        }
        x = Due.with(last("a", 1) + "sort s off 10 20 30 25 15 wear 0 grow 0 leave 0;keeps 100 100 100 100 0;"
                + stock("a", 40, 40, 9));
        x.person(0, 40);
        // Foot 2 below: 0. 2000, 3000, 2500, 1500 of 9000: 2222.2, 3333.3, 2777.7, 1666.6; 2 lack.
        int[] due = {0, 2222, 3335, 2777, 1666};
        for (int d = -2; d <= 2; d++) {
            Due.is("of 9000, d " + d, x.after(0, 0, 4, 0, d), due[d + 2]);
        }
        x.send(0, 0, 4);
        x.back(0, 0);
        Due.feet(x, 0, due);
        Due.runs(x, 0, 0, 10000, 0);
    }

    /** "the first of like ones": of feet */
    private static void theFirstOfLikeOnes() {
        String[] keeps = {"50 50 50 0 0", "0 50 50 50 0", "0 0 50 50 50"};
        int[] bits = {1, 4, 16};
        int[][] due = {{3334, 3333, 3333, 0, 0}, {0, 3334, 3333, 3333, 0}, {0, 0, 3334, 3333, 3333}};
        for (int i = 0; i < 3; i++) {
            ThreeSizes x = Due.with(last("a", 1) + "sort s off 20 20 20 20 20 wear 0 grow 0 leave 0;keeps " + keeps[i]
                    + ";" + stock("a", 38, 42, 9));
            x.person(0, 40);
            int e = Integer.numberOfTrailingZeros(bits[i]) - 2;
            for (int d = -2; d <= 2; d++) {
                Due.is("thirds, d " + d, x.after(0, 0, bits[i], e, d), due[i][d + 2]);
            }
            x.send(0, 0, bits[i]);
            x.back(0, e);
            Due.feet(x, 0, due[i]);
        }
    }

    /** "the first of like ones": of runs */
    private static void theFirstOfLikeRuns() {
        ThreeSizes x = Due.with("last a price 1 runs 30 30 40;last b price 1 runs 0 50 50;last c price 1 runs 1 33 66;"
                + S + "keeps 0 40 40 30 0;" + stock("a", 40, 40, 9));
        x.person(0, 40);
        int[] thirds = {3334, 3333, 3333};
        // b: 50 * 40 and 50 * 30 of 3500. c: 40, 1320, 1980 of 3340: 119.7, 3952.0, 5928.1.
        int[] b = {0, 5715, 4285};
        int[] c = {119, 3952, 5929};
        for (int run = -1; run <= 1; run++) {
            Due.is("a, run " + run, x.teaches(0, 0, 4, 0, run), thirds[run + 1]);
            Due.is("b, run " + run, x.teaches(0, 1, 4, 0, run), b[run + 1]);
            Due.is("c, run " + run, x.teaches(0, 2, 4, 0, run), c[run + 1]);
        }
        x.send(0, 0, 4);
        x.back(0, 0);
        Due.runs(x, 0, thirds);
        Due.runs(x, 1, 0, 5000, 5000);
    }

    /** "What has no WEIGHT at all can't come." */
    private static void noWeightAtAll() {
        ThreeSizes x = Due.with(last("a", 1) + S + KEEPS + stock("a", 38, 42, 9));
        x.person(0, 40);
        Due.is("kept", x.after(0, 0, 12, 0, 0), 10000);
        Due.is("none can't come", x.after(0, 0, 12, 3, 0), -1);
        Due.is("none teaches nothing", x.teaches(0, 0, 12, 3, 0), -1);
        Due.is("the other can't come", x.after(0, 0, 12, 1, 0), -1);
        Due.is("the other teaches nothing", x.teaches(0, 0, 12, 1, 0), -1);
        Due.is("its weight", x.keeps(0, 0, 12, 1), 0);
        x.send(0, 0, 12);
        String seen = Due.seen(x);
        Due.is("none", x.back(0, 3), false);
        Due.is("the other", x.back(0, 1), false);
        Due.same("nothing happened", Due.seen(x), seen);
        Due.is("kept", x.back(0, 0), true);
    }

    /** A weight of 1 of 10 to the 12 can come. */
    private static void theLeastWeight() {
        ThreeSizes x = Due.with(last("a", 1) + "sort s off 0 0 0 0 0 wear 99 grow 0 leave 0;keeps 0 0 1 0 0;"
                + stock("a", 42, 42, 9));
        Due.think(x, new int[][] {{0, 40, 9999, 0, 0, 0, 1}}, new int[][] {{0, 1, 9999}});
        Due.is("its weight", x.keeps(0, 0, 16, 2), 1);
        Due.is("all else", x.keeps(0, 0, 16, 3), ALL - 1);
        Due.is("after it", x.after(0, 0, 16, 2, 2), 10000);
        Due.is("what it teaches", x.teaches(0, 0, 16, 2, 0), 10000);
        x.send(0, 0, 16);
        Due.is("it comes", x.back(0, 2), true);
        Due.feet(x, 0, 0, 0, 0, 0, 10000);
        Due.runs(x, 0, 0, 10000, 0);
    }

    /** "by what is THOUGHT now": what is asked of one box tells nothing of another, and changes nothing */
    private static void oneAfterTheOther() {
        String text = "last a price 1 runs 20 50 30;last b price 1 runs 40 40 20;"
                + "sort s off 10 20 40 20 10 wear 10 grow 0 leave 0;keeps 10 40 80 30 20;";
        int[][] boxes = {{0, 4, 0}, {1, 9, -2}, {0, 4, 3}, {1, 9, 1}, {0, 28, 2}, {1, 2, 3}};
        ThreeSizes x = Due.with(text);
        x.person(0, 40);
        for (int times = 0; times < 2; times++) {
            for (int[] box : boxes) {
                ThreeSizes fresh = Due.with(text);
                fresh.person(0, 40);
                for (int run = -1; run <= 1; run++) {
                    Due.is("teaches", x.teaches(0, box[0], box[1], box[2], run),
                            fresh.teaches(0, box[0], box[1], box[2], run));
                    Due.is("after", x.after(0, box[0], box[1], box[2], run),
                            fresh.after(0, box[0], box[1], box[2], run));
                }
                Due.is("mean", x.mean(0, box[0], box[1], false), fresh.mean(0, box[0], box[1], false));
            }
        }
        Due.feet(x, 0, 1000, 2000, 4000, 2000, 1000);
        Due.runs(x, 0, 2000, 5000, 3000);
    }

    /** "back(): .. false when there is none, e is not in it, or that can't come" */
    private static void backThatCantBe() {
        ThreeSizes x = Due.with(last("a", 1) + "sort s off 20 20 20 20 20 wear 50 grow 0 leave 0;keeps 50 50 50 50 50;"
                + stock("a", 38, 42, 9));
        x.person(0, 40);
        x.person(0, 40);
        for (int none : new int[] {-1, 0, 1, 2, 20, Integer.MIN_VALUE, Integer.MAX_VALUE}) {
            Due.is("no box of " + none, x.back(none, 3), false);
        }
        x.send(0, 0, 17);
        String seen = Due.seen(x);
        for (int e : new int[] {-1, 0, 1, -3, 4, 5, 29, Integer.MIN_VALUE, Integer.MAX_VALUE}) {
            Due.is("not in it: " + e, x.back(0, e), false);
        }
        Due.is("of the other", x.back(1, 3), false);
        Due.same("nothing happened", Due.seen(x), seen);
        Due.is("in it", x.back(0, 2), true);
        Due.is("it is back", x.back(0, 2), false);
        Due.is("and not out", x.back(0, 3), false);
        x.send(1, 0, 17);
        Due.is("2 below", x.back(1, -2), true);
        x.send(1, 0, 17);
        Due.is("whole", x.back(1, 3), true);
        Due.is("came back", x.who(1, 2), 2);
        Due.is("whole", x.who(1, 3), 1);
    }

    /** "stock(last, size): .. NONE when there is none such" */
    private static void stocksAsked() {
        ThreeSizes x = Due.with(last("a", 1) + stock("a", 30, 49, 7));
        Due.is("30", x.stock(0, 30), 7);
        Due.is("49", x.stock(0, 49), 7);
        for (int none : new int[] {29, 50, 0, -1, Integer.MIN_VALUE, Integer.MAX_VALUE}) {
            Due.is("size " + none, x.stock(0, none), -1);
        }
        for (int none : new int[] {-1, 1, 8, Integer.MIN_VALUE, Integer.MAX_VALUE}) {
            Due.is("last " + none, x.stock(none, 40), -1);
        }
        for (int none : ODD) {
            Due.is("neither", x.stock(none, none), -1);
        }
    }

    /** "earned so far by BOXES that came back (MONEY)": not by those that are out; below 0 too */
    private static void earned() {
        ThreeSizes x = Due.with(last("a", 10) + "sort s off 0 0 0 0 0 wear 50 grow 0 leave 0;" + KEEPS
                + "fare 20;wipe 5;fee 3;" + stock("a", 40, 41, 9));
        Due.is("nothing yet", x.earned(), 0);
        x.person(0, 40);
        x.send(0, 0, 4);
        Due.is("nothing while it is out", x.earned(), 0);
        x.back(0, 0);
        Due.is("10 - 20", x.earned(), -10);
        x.send(0, 0, 12);
        x.back(0, 3);
        Due.is("3 - 40 - 10", x.earned(), -57);
        x.days(100);
        Due.is("days earn nothing", x.earned(), -57);
    }
}
