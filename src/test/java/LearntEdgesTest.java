/**
 * The document's sentences on questions, ways, fees, what is learnt and the truth (Terms II and III;
 * promises 19, 25 to 37) that name an edge, each with both sides of it. The sentence stands above its test.
 */
public final class LearntEdgesTest {
    private static final int NOTHING = ThreeSizes.NOTHING;
    private static final String S = "sort s off 0 0 0 0 0 wear 0 grow 0 leave 0;";
    private static final String KEEPS = "keeps 0 0 100 0 0;";
    private static final String A = "last a price 100 runs 0 0 0;";
    private static final String EVEN = "sort s off 0 50 0 50 0 wear 0 grow 0 leave 0;";

    public static void main(String[] args) {
        answersThatCantCome();
        theLeastAnswer();
        answersAreRoundedDown();
        noSuchAnswer();
        worthIsRoundedDown();
        worthIsExact();
        answersThatCountZero();
        noWorth();
        theFirstQuestion();
        noQuestion();
        feesTaken();
        theLeastFee();
        noStep();
        waysAt49();
        waysByRules();
        wayOfTheBest();
        noWay();
        from6000();
        unlikePeople();
        sameLastAndSize();
        mostOften();
        theLeastSize();
        noStrangers();
        threeWhole();
        years();
        yearsOfTheFirst();
        noGrowth();
        justOnePair();
        withoutABox();
        theFirstPerson();
        withinReach();
        seeds();
        draws();
        allUpToItAbove();
        noTruth();
        belowItsChance();
        trialsOfTwo();
        trialsInStock();
        trialsThatCantBe();
        nothingIsLearnt();
        Due.rest("LearntEdgesTest");
    }

    private static String stock(String name, int from, int to, int pairs) {
        StringBuilder text = new StringBuilder();
        for (int size = from; size <= to; size++) {
            text.append("stock ").append(name).append(' ').append(size).append(' ').append(pairs).append(';');
        }
        return text.toString();
    }

    // ---------------------------------------------------------------- questions

    /** "What has no WEIGHT at all can't come. A QUESTION answered: .. likewise." */
    private static void answersThatCantCome() {
        ThreeSizes x = Due.with("sort s off 0 0 30 70 0 wear 0 grow 0 leave 0;ask ever 100 100 100 100 100;"
                + "ask never 0 0 0 0 0;ask others 100 100 0 0 100;ask these 0 0 100 100 0;");
        x.person(0, 40);
        String seen = Due.seen(x);
        Due.is("no to ever", x.answer(0, 0, false), false);
        Due.is("yes to never", x.answer(0, 1, true), false);
        Due.is("yes to what others say", x.answer(0, 2, true), false);
        Due.is("no to what these say", x.answer(0, 3, false), false);
        Due.same("nothing happened", Due.seen(x), seen);
        Due.is("yes to ever", x.answer(0, 0, true), true);
        Due.is("no to never", x.answer(0, 1, false), true);
        Due.is("no to what others say", x.answer(0, 2, false), true);
        Due.is("yes to what these say", x.answer(0, 3, true), true);
        Due.feet(x, 0, 0, 0, 3000, 7000, 0);
    }

    /** A weight of 1 of 10 to the 6 can come. */
    private static void theLeastAnswer() {
        int[][] people = {{0, 40, 0, 1, 9999, 0, 0}, {0, 40, 0, 1, 9999, 0, 0}};
        ThreeSizes x = Due.with(S + "ask q 0 1 0 0 0;ask r 100 99 100 100 100;");
        Due.think(x, people, new int[0][]);
        Due.is("yes", x.answer(0, 0, true), true);
        Due.feet(x, 0, 0, 10000, 0, 0, 0);
        Due.is("no", x.answer(1, 1, false), true);
        Due.feet(x, 1, 0, 10000, 0, 0, 0);
    }

    /** "each number becomes floor(..); what lacks to 10000 comes to the greatest one, the first of like ones" */
    private static void answersAreRoundedDown() {
        String[] sorts = {"20 20 20 20 20", "30 30 10 30 0"};
        String[] asks = {"10 10 10 0 0", "50 50 0 50 0"};
        int[][] due = {{3334, 3333, 3333, 0, 0}, {3334, 3333, 0, 3333, 0}};
        for (int i = 0; i < 2; i++) {
            ThreeSizes x = Due.with("sort s off " + sorts[i] + " wear 0 grow 0 leave 0;ask q " + asks[i] + ";");
            x.person(0, 40);
            Due.is("yes", x.answer(0, 0, true), true);
            Due.feet(x, 0, due[i]);
        }
        ThreeSizes x = Due.with("sort s off 10 20 30 25 15 wear 0 grow 0 leave 0;ask q 0 10 20 30 40;");
        x.person(0, 40);
        x.person(0, 40);
        // Yes: 0, 200, 600, 750, 600 of 2150: 930.2, 2790.6, 3488.3, 2790.6; 2 lack.
        Due.is("yes", x.answer(0, 0, true), true);
        Due.feet(x, 0, 0, 930, 2790, 3490, 2790);
        // No: 1000, 1800, 2400, 1750, 900 of 7850: 1273.8, 2292.9, 3057.3, 2229.2, 1146.4; 3 lack.
        Due.is("no", x.answer(1, 0, false), true);
        Due.feet(x, 1, 1273, 2292, 3060, 2229, 1146);
    }

    /** "answer(): .. false when there is none such" */
    private static void noSuchAnswer() {
        ThreeSizes x = Due.with(S + "ask q 50 50 50 50 50;");
        x.person(0, 40);
        Due.is("it is", x.answer(0, 0, true), true);
        for (int none : new int[] {-1, 1, 6, 20, Integer.MIN_VALUE, Integer.MAX_VALUE}) {
            Due.is("person " + none, x.answer(none, 0, true), false);
            Due.is("question " + none, x.answer(0, none, true), false);
            Due.is("question " + none + ", no", x.answer(0, none, false), false);
        }
    }

    /** "together / 10 to the 6, rounded down; less that of the BEST BOX now" */
    private static void worthIsRoundedDown() {
        // The only box brings 99.99 where the foot is 1 above, else -99.99. Yes (1 of 10 to the 6) tells that
        // it is; behind no it is never. Together (999900 - 999999 * 999900) / 10 to the 6 = -999898.0002;
        // now 0.0001 * 9999 - 0.9999 * 9999 = -9997.0002.
        ThreeSizes x = Due.with("last a price 9999 runs 0 0 0;" + S + KEEPS + "wipe 9999;stock a 41 1;ask q 0 0 0 1 0;");
        Due.think(x, new int[][] {{0, 40, 0, 0, 9999, 1, 0}}, new int[][] {{0, 10000, 0}});
        Due.is("now", x.best(0, 0, true), -999701);
        Due.is("rounded down below 0", x.worth(0, 0, 0), -999899 + 999701);
        // Price 1, no wipe: (100 * 1 + 0 * 999999) / 10 to the 6 is 0; now 0.0001.
        x = Due.with("last a price 1 runs 0 0 0;" + S + KEEPS + "stock a 41 1;ask q 0 0 0 1 0;");
        Due.think(x, new int[][] {{0, 40, 0, 0, 9999, 1, 0}}, new int[][] {{0, 10000, 0}});
        Due.is("rounded down above 0", x.worth(0, 0, 0), 0);
        // Behind yes 0.49, behind no 0.50: (49 + 999999 * 50) / 10 to the 6 is one of 10 to the 6 below 50; now 0.499999.
        x = Due.with(A + "sort s off 0 0 0 0 0 wear 99 grow 0 leave 0;keeps 0 49 50 0 0;stock a 40 1;ask q 0 0 0 1 0;");
        Due.think(x, new int[][] {{0, 40, 0, 0, 9999, 1, 0}}, new int[][] {{0, 10000, 0}});
        Due.is("now", x.best(0, 0, true), 49);
        Due.is("rounded down just below a whole number", x.worth(0, 0, 0), 0);
    }

    /** WORTH where nothing is to be rounded */
    private static void worthIsExact() {
        ThreeSizes x = Due.with(A + EVEN + KEEPS + "wipe 10;" + stock("a", 38, 42, 9) + "ask q 0 100 0 0 0;"
                + "ask half 50 50 50 50 50;ask r 100 0 100 100 100;");
        x.person(0, 40);
        // Now both, 100 - 10; behind an answer one alone, 100.
        Due.is("now", x.best(0, 0, true), 9000);
        Due.is("tells all", x.worth(0, 0, 0), 1000);
        Due.is("tells nothing", x.worth(1, 0, 0), 0);
        Due.is("tells all, by no", x.worth(2, 0, 0), 1000);
        x = Due.with("last a price 0 runs 0 0 0;" + S + KEEPS + "fare 9999;wipe 9999;" + stock("a", 41, 41, 9)
                + "ask half 50 50 50 50 50;");
        x.person(0, 40);
        Due.is("the greatest loss of one pair", x.best(0, 0, true), -2999700);
        Due.is("tells nothing", x.worth(0, 0, 0), 0);
    }

    /** "(an answer that can't come counts 0)" */
    private static void answersThatCountZero() {
        for (String rest : new String[] {"stock a 40 9;", "fare 9999;wipe 9999;stock a 41 9;"}) {
            ThreeSizes x = Due.with(A + S + KEEPS + rest + "ask ever 100 100 100 100 100;ask never 0 0 0 0 0;"
                    + "ask it 0 0 100 0 0;");
            x.person(0, 40);
            for (int question = 0; question < 3; question++) {
                Due.is("the other one counts all, question " + question, x.worth(question, 0, 0), 0);
            }
            Due.feet(x, 0, 0, 0, 10000, 0, 0);
        }
    }

    /** "worth(): WORTH; NOTHING when something can't be, or there is no BEST BOX now" */
    private static void noWorth() {
        ThreeSizes x = Due.with(A + "last b price 1 runs 0 0 0;" + S + KEEPS + "stock a 42 1;ask q 1 2 3 4 5;");
        x.person(0, 40);
        x.person(0, 39);
        Due.is("a best one", x.worth(0, 0, 0), 0);
        Due.is("a question", x.question(0, 0), 0);
        Due.is("42 is out of reach", x.worth(0, 1, 0), NOTHING);
        Due.is("no question", x.question(1, 0), -1);
        Due.is("no b in stock", x.worth(0, 0, 1), NOTHING);
        Due.is("no question of b", x.question(0, 1), -1);
        for (int none : new int[] {-1, 2, 8, 20, Integer.MIN_VALUE, Integer.MAX_VALUE}) {
            Due.is("question " + none, x.worth(none, 0, 0), NOTHING);
            Due.is("person " + none, x.worth(0, none, 0), NOTHING);
            Due.is("last " + none, x.worth(0, 0, none), NOTHING);
            Due.is("the question of person " + none, x.question(none, 0), -1);
            Due.is("the question of last " + none, x.question(0, none), -1);
        }
        Due.is("question 1", x.worth(1, 0, 0), NOTHING);
        x.send(0, 0, 16);
        Due.is("it is out", x.worth(0, 0, 0), NOTHING);
        Due.is("no question while it is out", x.question(0, 0), -1);
    }

    /** "THE QUESTION: that with most WORTH, the first of like ones." */
    private static void theFirstQuestion() {
        String text = A + EVEN + KEEPS + "wipe 10;" + stock("a", 38, 42, 9);
        String[] asks = {"0 100 0 0 0", "0 0 0 100 0", "50 50 50 50 50", "0 0 0 0 0", "0 90 0 10 0"};
        int[][] orders = {{0, 1}, {1, 0}, {2, 3}, {3, 2}, {2, 0}, {2, 4, 3, 0, 1}, {0, 2}, {2, 1, 0}};
        int[] due = {0, 0, 0, 0, 1, 3, 0, 1};
        for (int i = 0; i < orders.length; i++) {
            StringBuilder all = new StringBuilder(text);
            for (int k = 0; k < orders[i].length; k++) {
                all.append("ask ").append((char) ('k' + k)).append(' ').append(asks[orders[i][k]]).append(';');
            }
            ThreeSizes x = Due.with(all.toString());
            x.person(0, 40);
            Due.is("the question, order " + i, x.question(0, 0), due[i]);
        }
        // Worth below 0 is worth all the same: see worthIsRoundedDown.
        ThreeSizes x = Due.with("last a price 9999 runs 0 0 0;" + S + KEEPS + "wipe 9999;stock a 41 1;ask q 0 0 0 1 0;");
        Due.think(x, new int[][] {{0, 40, 0, 0, 9999, 1, 0}}, new int[][] {{0, 10000, 0}});
        Due.is("the only one", x.question(0, 0), 0);
    }

    /** "question(): THE QUESTION; NONE without, or as for worth()" */
    private static void noQuestion() {
        ThreeSizes x = Due.with(A + S + KEEPS + "stock a 40 1;");
        x.person(0, 40);
        Due.is("without", x.question(0, 0), -1);
        Due.is("without a house", new ThreeSizes().question(0, 0), -1);
    }

    // ---------------------------------------------------------------- fees and ways

    /** "fee(fee): The fee (0 .. 99) is this from now on: what it was; NONE when it can't be." */
    private static void feesTaken() {
        ThreeSizes x = Due.with("fee 7;");
        for (int none : new int[] {-1, 100, Integer.MIN_VALUE, Integer.MAX_VALUE}) {
            Due.is("fee(" + none + ")", x.fee(none), -1);
            Due.is("it stays", x.has(7), 7);
        }
        Due.is("fee(99)", x.fee(99), 7);
        Due.is("has(7)", x.has(7), 99);
        Due.is("fee(0)", x.fee(0), 99);
        Due.is("has(7)", x.has(7), 0);
        Due.is("fee(1)", x.fee(1), 0);
        Due.is("without a house", new ThreeSizes().fee(3), 0);
    }

    /** "step(): The fee with which ORDERED MEAN of a BOX is greatest, the least of like ones" */
    private static void theLeastFee() {
        String text = A + "sort s off 0 0 0 0 0 wear 0 grow 0 leave 0;sort t off 0 0 0 0 0 wear 0 grow 0 leave 100;"
                + "sort u off 0 0 0 0 0 wear 0 grow 0 leave 2;sort v off 0 0 0 0 0 wear 0 grow 0 leave 1;" + KEEPS;
        ThreeSizes x = Due.with(text + "fee 50;");
        for (int sort = 0; sort < 4; sort++) {
            x.person(sort, 40);
        }
        // Always kept: the fee brings nothing, and drives off.
        for (int person = 0; person < 4; person++) {
            Due.is("always kept, person " + person, x.step(person, 0, 4), 0);
        }
        // Never kept: 100 f, of which 100 - leave * f order.
        Due.is("none leaves", x.step(0, 0, 1), 99);
        Due.is("all leave, from 1 on", x.step(1, 0, 1), 0);
        Due.is("f (100 - 2 f)", x.step(2, 0, 1), 25);
        Due.is("f (100 - f)", x.step(3, 0, 1), 50);
        Due.is("the fee stays", x.has(7), 50);
        x = Due.with(text + "fare 1;");
        for (int sort = 0; sort < 4; sort++) {
            x.person(sort, 40);
        }
        // Never kept: 100 (f - 2).
        Due.is("a loss: 1, with which none orders", x.step(1, 0, 1), 1);
        Due.is("(f - 2) (100 - 2 f)", x.step(2, 0, 1), 26);
        Due.is("(f - 2) (100 - f)", x.step(3, 0, 1), 51);
        x = Due.with(text + "fare 0;wipe 1;");
        x.person(3, 40);
        // (f - 1) (100 - f): 49 * 50 and 50 * 49.
        Due.is("50 and 51 are like ones", x.step(0, 0, 1), 50);
    }

    /** "step(): .. NONE when something can't be" */
    private static void noStep() {
        ThreeSizes x = Due.with(A + S + KEEPS);
        x.person(0, 40);
        Due.is("it can, in stock or not", x.step(0, 0, 4), 0);
        for (int none : new int[] {-1, 1, 20, Integer.MIN_VALUE, Integer.MAX_VALUE}) {
            Due.is("person " + none, x.step(none, 0, 4), -1);
            Due.is("last " + none, x.step(0, none, 4), -1);
        }
        for (int none : new int[] {0, -1, 15, 32, Integer.MIN_VALUE, Integer.MAX_VALUE}) {
            Due.is("box " + none, x.step(0, 0, none), -1);
        }
    }

    /** "as asked; as asked and the next one above (left out above 49)" */
    private static void waysAt49() {
        ThreeSizes x = Due.with(A + "sort s off 0 0 50 50 0 wear 0 grow 0 leave 5;" + KEEPS + "wipe 2;fee 1;");
        x.person(0, 48);
        x.person(0, 49);
        x.person(0, 30);
        for (int person = 0; person < 3; person++) {
            int both = person == 1 ? 4 : 12;
            Due.is("as asked, person " + person, x.way(0, person, 0), x.mean(person, 0, 4, true));
            Due.is("and the next one above, person " + person, x.way(1, person, 0), x.mean(person, 0, both, true));
        }
        // One: 0.5 * 100 + 0.5 * (1 - 2) = 49.5; both: 100 - 2; 95 of 100 order.
        Due.is("one", x.way(0, 0, 0), 4702);
        Due.is("both", x.way(1, 0, 0), 9310);
        Due.is("at 49 one", x.way(1, 1, 0), 4702);
    }

    /** "by RULE 0, 1, 2": 3, 4, 5; "way(): ORDERED MEAN of a WAY's BOX; NOTHING without one" */
    private static void waysByRules() {
        ThreeSizes x = Due.with(A + "sort s off 10 20 30 25 15 wear 0 grow 0 leave 5;" + KEEPS + "wipe 2;fee 1;");
        x.person(0, 40);
        String[] rules = {"send down when all;", "send below when all;", "send same above up when all;"};
        int[] bits = {1, 2, 28};
        for (int k = 0; k < 3; k++) {
            Due.is("no rule " + k, x.way(3 + k, 0, 0), NOTHING);
        }
        for (int k = 0; k < 3; k++) {
            Due.rule(x, k, rules[k]);
            Due.is("rule " + k, x.way(3 + k, 0, 0), x.mean(0, 0, bits[k], true));
        }
        Due.is("all unlike", x.way(3, 0, 0) != x.way(4, 0, 0) && x.way(4, 0, 0) != x.way(5, 0, 0), true);
        Due.rule(x, 0, "send up when not all;");
        Due.is("no statement holds", x.way(3, 0, 0), NOTHING);
        Due.rule(x, 1, "send up above when all;");
        x.person(0, 49);
        Due.is("no size is left", x.way(4, 1, 0), NOTHING);
        Due.is("it is for the other", x.way(4, 0, 0), x.mean(0, 0, 24, true));
    }

    /** "the BEST BOX": 2 */
    private static void wayOfTheBest() {
        ThreeSizes x = Due.with(A + "sort s off 0 0 50 50 0 wear 0 grow 0 leave 5;" + KEEPS + "wipe 2;fee 1;stock a 41 1;");
        x.person(0, 40);
        x.person(0, 38);
        Due.is("41 alone", x.way(2, 0, 0), x.mean(0, 0, 8, true));
        Due.is("none in stock", x.way(2, 1, 0), NOTHING);
        Due.is("as asked, though not in stock", x.way(0, 1, 0), 4702);
    }

    /** "way(): .. NOTHING .. when something can't be" */
    private static void noWay() {
        ThreeSizes x = Due.with(A + S + KEEPS + "stock a 40 1;");
        x.person(0, 40);
        for (int none : new int[] {-1, 6, 7, Integer.MIN_VALUE, Integer.MAX_VALUE}) {
            Due.is("way " + none, x.way(none, 0, 0), NOTHING);
        }
        for (int way = 0; way < 6; way++) {
            for (int none : new int[] {-1, 1, 20, Integer.MIN_VALUE, Integer.MAX_VALUE}) {
                Due.is("person " + none, x.way(way, none, 0), NOTHING);
                Due.is("last " + none, x.way(way, 0, none), NOTHING);
            }
        }
    }

    // ---------------------------------------------------------------- what is learnt

    /** "SMALL is a LAST of which small is THOUGHT 6000 or more; LARGE likewise"; "print(): .. -2 when there is none such" */
    private static void from6000() {
        int[][] runs = {{5999, 4001, 0}, {6000, 4000, 0}, {10000, 0, 0}, {0, 4001, 5999}, {0, 4000, 6000}, {0, 0, 10000},
            {0, 10000, 0}, {5000, 0, 5000}};
        int[] due = {0, -1, -1, 0, 1, 1, 0, 0};
        StringBuilder text = new StringBuilder();
        for (char name = 'a'; name <= 'h'; name++) {
            text.append("last ").append(name).append(" price 1 runs 0 0 0;");
        }
        ThreeSizes x = Due.with(text.toString());
        Due.think(x, new int[0][], runs);
        for (int last = 0; last < 8; last++) {
            Due.runs(x, last, runs[last]);
            Due.is("print(" + last + ")", x.print(last), due[last]);
        }
        for (int none : new int[] {-1, 8, Integer.MIN_VALUE, Integer.MAX_VALUE}) {
            Due.is("print(" + none + ")", x.print(none), -2);
        }
        Due.is("without a house", new ThreeSizes().print(0), -2);
    }

    private static ThreeSizes people(String more, int... sizes) {
        ThreeSizes x = Due.with(A + "last b price 1 runs 0 0 0;sort s off 20 20 20 20 20 wear 0 grow 0 leave 0;"
                + "keeps 50 50 50 50 50;" + stock("a", 30, 49, 9) + stock("b", 36, 49, 9) + more);
        for (int size : sizes) {
            x.person(0, size);
        }
        return x;
    }

    private static void keep(ThreeSizes x, int person, int last, int size) {
        int e = size - x.who(person, 1);
        Due.is("send " + size, x.send(person, last, 1 << e + 2) > 0, true);
        Due.is("keep " + size, x.back(person, e), true);
    }

    /** "alike(): Whether two PEOPLE are ALIKE: 1, 0; NONE when there are none such (unlike ones)" */
    private static void unlikePeople() {
        ThreeSizes x = people("", 40, 40);
        keep(x, 0, 0, 40);
        Due.is("two", x.alike(0, 1), 0);
        Due.is("one and the same", x.alike(0, 0), -1);
        Due.is("one and the same", x.alike(1, 1), -1);
        for (int none : new int[] {-1, 2, 20, Integer.MIN_VALUE, Integer.MAX_VALUE}) {
            Due.is("first " + none, x.alike(none, 0), -1);
            Due.is("second " + none, x.alike(0, none), -1);
            Due.is("both " + none, x.alike(none, none), -1);
        }
    }

    /** "ALIKE are two PEOPLE who KEPT a pair of the same LAST and SIZE" */
    private static void sameLastAndSize() {
        ThreeSizes x = people("", 40, 40, 44, 39, 45);
        keep(x, 0, 0, 41);
        keep(x, 1, 0, 40);
        Due.is("unlike sizes", x.alike(0, 1), 0);
        keep(x, 1, 1, 41);
        Due.is("unlike lasts", x.alike(0, 1), 0);
        x.send(1, 0, 8);
        Due.is("it is out", x.alike(0, 1), 0);
        x.back(1, 3);
        Due.is("it came back whole", x.alike(0, 1), 0);
        x.send(1, 0, 12);
        x.back(1, 0);
        Due.is("40 was kept of 40 and 41", x.alike(0, 1), 0);
        keep(x, 1, 0, 41);
        Due.is("the same last and size", x.alike(0, 1), 1);
        Due.is("either way", x.alike(1, 0), 1);
        keep(x, 0, 0, 42);
        keep(x, 2, 0, 42);
        Due.is("the one's 2 above, the other's 2 below", x.alike(0, 2), 1);
        Due.is("either way", x.alike(2, 0), 1);
        keep(x, 3, 0, 37);
        keep(x, 4, 0, 47);
        Due.is("37 and 42", x.alike(3, 2), 0);
        Due.is("37 and 47", x.alike(3, 4), 0);
        Due.is("42 and 47", x.alike(2, 4), 0);
        Due.is("47 and 42", x.alike(4, 2), 0);
    }

    /** "of all pairs of that LAST that those ALIKE kept the SIZE that is there most often" */
    private static void mostOften() {
        ThreeSizes x = people("", 40, 40, 42, 40);
        keep(x, 0, 0, 40);
        keep(x, 1, 0, 40);
        keep(x, 2, 0, 40);
        keep(x, 1, 1, 41);
        Due.is("one", x.strangers(0, 1), 41);
        keep(x, 2, 1, 42);
        Due.is("one each", x.strangers(0, 1), 41);
        keep(x, 2, 1, 42);
        Due.is("one kept two", x.strangers(0, 1), 42);
        keep(x, 1, 1, 40);
        keep(x, 2, 1, 40);
        Due.is("two kept one each", x.strangers(0, 1), 40);
        keep(x, 3, 1, 41);
        keep(x, 3, 1, 41);
        keep(x, 0, 1, 42);
        Due.is("one who is not alike, and one's own", x.strangers(0, 1), 40);
        Due.is("told to the second", x.strangers(1, 1), 42);
        Due.is("told to the third", x.strangers(2, 1), 40);
        Due.is("told of the other last", x.strangers(0, 0), 40);
    }

    /** "the least of like ones" */
    private static void theLeastSize() {
        ThreeSizes x = people("stock b 30 9;", 30, 30, 49, 49);
        keep(x, 0, 0, 31);
        keep(x, 1, 0, 31);
        keep(x, 0, 1, 30);
        Due.is("30, told by the first", x.strangers(1, 1), 30);
        Due.is("one's own do not count", x.strangers(0, 1), -1);
        keep(x, 2, 0, 48);
        keep(x, 3, 0, 48);
        keep(x, 2, 1, 49);
        keep(x, 2, 1, 47);
        Due.is("47 and 49", x.strangers(3, 1), 47);
        keep(x, 2, 1, 49);
        Due.is("49 twice", x.strangers(3, 1), 49);
        keep(x, 2, 1, 48);
        keep(x, 2, 1, 48);
        Due.is("48 and 49 twice", x.strangers(3, 1), 48);
    }

    /** "strangers(): TOLD BY STRANGERS; NONE without, or when there is none such" */
    private static void noStrangers() {
        ThreeSizes x = people("", 40, 40);
        Due.is("no one kept any", x.strangers(0, 0), -1);
        keep(x, 1, 0, 40);
        Due.is("no one alike", x.strangers(0, 0), -1);
        keep(x, 0, 0, 40);
        Due.is("one alike", x.strangers(0, 0), 40);
        Due.is("but none of b", x.strangers(0, 1), -1);
        for (int none : new int[] {-1, 2, 8, 20, Integer.MIN_VALUE, Integer.MAX_VALUE}) {
            Due.is("person " + none, x.strangers(none, 0), -1);
            Due.is("last " + none, x.strangers(0, none), -1);
        }
    }

    /** "SELDOM honest is who sent back 3 BOXES or more whole and kept none" */
    private static void threeWhole() {
        ThreeSizes x = people("", 40, 40);
        for (int box = 1; box <= 5; box++) {
            x.send(0, 0, 4);
            Due.is("a box is out, " + box, x.who(0, 7), box > 3 ? 1 : 0);
            x.back(0, 3);
            Due.is("whole, " + box, x.who(0, 7), box >= 3 ? 1 : 0);
        }
        keep(x, 0, 0, 40);
        Due.is("one kept behind them", x.who(0, 7), 0);
        Due.is("five whole", x.who(0, 3), 5);
        keep(x, 1, 0, 40);
        for (int box = 1; box <= 4; box++) {
            x.send(1, 0, 4);
            x.back(1, 3);
            Due.is("one kept ahead of them, " + box, x.who(1, 7), 0);
        }
    }

    /** "THOUGHT of d becomes floor(it times (100 - grow) / 100) and floor(that of d - 1 times grow / 100) together (2 above: all of its own, and that); what lacks to 10000 as ahead" */
    private static void years() {
        ThreeSizes x = Due.with("sort s off 0 0 0 0 0 wear 0 grow 50 leave 0;");
        // 1, 1 + 1, 1 + 1, 4995 + 1, 1 + 4995: 3 lack, and come to the first of like ones.
        Due.think(x, new int[][] {{0, 40, 3, 3, 3, 9990, 1}, {0, 40, 1, 1, 1, 1, 9996}, {0, 40, 2, 2, 2, 2, 9992}},
                new int[0][]);
        Due.is("people", x.year(), 3);
        Due.feet(x, 0, 1, 2, 2, 4999, 4996);
        Due.feet(x, 1, 0, 0, 0, 0, 10000);
        Due.feet(x, 2, 1, 2, 2, 2, 9993);
    }

    /** What lacks behind a year comes to a foot below too, the first of like ones. */
    private static void yearsOfTheFirst() {
        ThreeSizes x = Due.with("sort s off 0 0 0 0 0 wear 0 grow 1 leave 0;sort t off 0 0 0 0 0 wear 0 grow 99 leave 0;");
        // 9899.01, 0.99 + 99.99, 0.01: 2 lack. 49.99, 49.49 + 4949.01, 50.01 + 4900.. in the second.
        Due.think(x, new int[][] {{0, 40, 9999, 1, 0, 0, 0}, {1, 40, 4999, 4999, 2, 0, 0}, {0, 40, 10, 20, 4, 9956, 10}},
                new int[0][]);
        x.year();
        Due.feet(x, 0, 9901, 99, 0, 0, 0);
        // 49, 49 + 4949, 0 + 4949, 1, 0: 9997, 3 lack.
        Due.feet(x, 1, 49, 5001, 4949, 1, 0);
        // 9, 19 + 0, 3 + 0, 9856 + 0, 10 + 99: 9996, 4 lack.
        Due.feet(x, 2, 9, 19, 3, 9860, 109);
    }

    /** grow 0 and 100; "feet of THE TRUTH stay"; "year(): .. How many PEOPLE there are" */
    private static void noGrowth() {
        ThreeSizes x = Due.with(A + "sort s off 1 2 90 3 4 wear 0 grow 0 leave 0;"
                + "sort t off 1 2 90 3 4 wear 0 grow 100 leave 0;stock a 40 1;");
        Due.is("none", x.year(), 0);
        x.person(0, 40);
        x.person(1, 40);
        x.draw(3);
        x.send(0, 0, 4);
        int foot = x.who(1, 6);
        int run = x.truth(0);
        Due.is("two", x.year(), 2);
        Due.feet(x, 0, 100, 200, 9000, 300, 400);
        Due.feet(x, 1, 0, 100, 200, 9000, 700);
        x.year();
        Due.feet(x, 1, 0, 0, 100, 200, 9700);
        x.year();
        x.year();
        Due.feet(x, 1, 0, 0, 0, 0, 10000);
        Due.is("the foot of the truth", x.who(1, 6), foot);
        Due.is("the run of the truth", x.truth(0), run);
        Due.runs(x, 0, 0, 10000, 0);
        Due.is("the box is still out", x.has(8), 1);
    }

    /** "THE LAST PAIR of a LAST and SIZE, one being in stock"; "hold(): .. NONE without, when not just one is in stock, or there is none such" */
    private static void justOnePair() {
        ThreeSizes x = Due.with(A + "last b price 1 runs 0 0 0;" + S + KEEPS
                + "stock a 39 0;stock a 40 1;stock a 41 2;stock a 30 1;stock a 49 1;");
        Due.is("no people", x.hold(0, 40), -1);
        x.person(0, 40);
        Due.is("one", x.hold(0, 40), 0);
        Due.is("none", x.hold(0, 39), -1);
        Due.is("two", x.hold(0, 41), -1);
        Due.is("none of b", x.hold(1, 40), -1);
        for (int none : new int[] {29, 50, 0, Integer.MIN_VALUE, Integer.MAX_VALUE}) {
            Due.is("size " + none, x.hold(0, none), -1);
        }
        for (int none : new int[] {-1, 2, 8, Integer.MIN_VALUE, Integer.MAX_VALUE}) {
            Due.is("last " + none, x.hold(none, 40), -1);
        }
        x.person(0, 30);
        x.person(0, 49);
        Due.is("30", x.hold(0, 30), 1);
        Due.is("49", x.hold(0, 49), 2);
        x.person(0, 41);
        x.send(3, 0, 4);
        Due.is("two less one", x.hold(0, 41), 0);
    }

    /** "of PEOPLE without a BOX" */
    private static void withoutABox() {
        ThreeSizes x = Due.with(A + S + "keeps 0 50 100 50 0;stock a 40 2;stock a 41 9;");
        x.person(0, 40);
        x.person(0, 41);
        x.person(0, 39);
        x.send(0, 0, 4);
        Due.is("the one whom it fits has a box", x.hold(0, 40), 1);
        x.send(1, 0, 4);
        Due.is("so has the second", x.hold(0, 40), 2);
        x.back(0, 0);
        Due.is("the one again", x.hold(0, 40), 0);
        x.send(0, 0, 8);
        x.send(2, 0, 16);
        Due.is("all have one", x.hold(0, 40), -1);
    }

    /** "with the greatest MEAN of a BOX of that pair alone, the first of like ones" */
    private static void theFirstPerson() {
        ThreeSizes x = Due.with(A + S + "sort t off 0 0 0 0 0 wear 50 grow 0 leave 100;" + KEEPS + "fee 1;stock a 40 1;");
        x.person(1, 40);
        Due.is("the only one", x.hold(0, 40), 0);
        x.person(0, 40);
        x.person(0, 40);
        Due.is("the first of like ones", x.hold(0, 40), 1);
        x = Due.with(A + "sort s off 0 0 0 0 0 wear 0 grow 0 leave 100;"
                + "sort t off 0 0 0 0 0 wear 1 grow 0 leave 0;" + KEEPS + "fee 1;stock a 40 1;");
        x.person(1, 40);
        x.person(0, 40);
        Due.is("by the mean, not the ordered one", x.hold(0, 40), 1);
        x = Due.with(A + "sort s off 0 0 0 0 0 wear 0 grow 0 leave 0;" + KEEPS + "fare 9999;wipe 9999;stock a 40 1;");
        x.person(0, 41);
        Due.is("however great the loss", x.hold(0, 40), 0);
        x.person(0, 40);
        Due.is("the lesser one", x.hold(0, 40), 1);
    }

    /** a BOX of a pair is of a SIZE 2 below what is asked .. 2 above */
    private static void withinReach() {
        int[] sizes = {37, 38, 39, 40, 41, 42, 43};
        for (int size : sizes) {
            ThreeSizes x = Due.with(A + S + KEEPS + "stock a 40 1;");
            x.person(0, size);
            Due.is("40 for who asks for " + size, x.hold(0, 40), size >= 38 && size <= 42 ? 0 : -1);
        }
    }

    // ---------------------------------------------------------------- the truth

    /** "NONE when the seed is below 0" */
    private static void seeds() {
        ThreeSizes x = Due.with(A + S);
        x.person(0, 40);
        for (int none : new int[] {-1, -2, Integer.MIN_VALUE}) {
            Due.is("seed " + none, x.draw(none), -1);
            Due.is("no truth", x.truth(0), -1);
            Due.is("no foot", x.who(0, 6), -1);
        }
        Due.is("seed 0", x.draw(0), 2);
        Due.is("the run", x.truth(0), 1);
        Due.is("the foot", x.who(0, 6), 2);
        Due.is("seed -1", x.draw(-1), -1);
        Due.is("the truth stays", x.truth(0), 1);
        Due.is("the greatest seed", x.draw(Integer.MAX_VALUE), 2);
        Due.is("no lasts, no people", new ThreeSizes().draw(1), 0);
    }

    private static long seed;

    private static int drawn() {
        seed = (1103515245L * seed + 12345L) % (1L << 31);
        return (int) (seed / 64 % 10000);
    }

    private static int firstAbove(int drawn, int... thought) {
        int sum = 0;
        for (int i = 0; i < thought.length; i++) {
            sum += thought[i];
            if (sum > drawn) {
                return i;
            }
        }
        return -1;
    }

    /** "DRAWN for all, LASTS first"; "how many DRAWS"; "x (the seed) becomes (1103515245 x + 12345) mod 2 to the 31; floor(x / 64) mod n" */
    private static void draws() {
        ThreeSizes x = Due.with("last a price 1 runs 30 40 30;last b price 1 runs 20 30 50;"
                + "sort s off 20 20 20 20 20 wear 0 grow 0 leave 0;");
        for (int i = 0; i < 20; i++) {
            x.person(0, 40);
        }
        for (int from : new int[] {0, 1, 2, 63, 64, 12345, 1073741824, Integer.MAX_VALUE - 1, Integer.MAX_VALUE}) {
            seed = from;
            Due.is("draws", x.draw(from), 22);
            Due.is("run of a, seed " + from, x.truth(0), firstAbove(drawn(), 3000, 4000, 3000));
            Due.is("run of b, seed " + from, x.truth(1), firstAbove(drawn(), 2000, 3000, 5000));
            for (int i = 0; i < 20; i++) {
                Due.is("foot " + i + ", seed " + from, x.who(i, 6), firstAbove(drawn(), 2000, 2000, 2000, 2000, 2000));
            }
        }
    }

    /** "the first number of what is THOUGHT, all up to it together being above it" */
    private static void allUpToItAbove() {
        seed = 3;
        int first = drawn();
        int second = drawn();
        int[][] runs = {{first, 10000 - first, 0}, {first + 1, 9999 - first, 0}, {0, first, 10000 - first},
            {0, first + 1, 9999 - first}};
        int[] due = {1, 0, 2, 1};
        for (int i = 0; i < 4; i++) {
            ThreeSizes x = Due.with(A + S);
            int[] feet = {0, 40, 0, second + i % 2, 0, 10000 - second - i % 2, 0};
            Due.think(x, new int[][] {feet}, new int[][] {runs[i]});
            x.draw(3);
            Due.is("a draw of " + first + ", the " + i + "th", x.truth(0), due[i]);
            Due.is("a draw of " + second + ", the " + i + "th", x.who(0, 6), i % 2 == 0 ? 3 : 1);
        }
    }

    /** "(none at first)"; "truth(): .. NONE without, or when there is none such"; "no THE TRUTH of both" */
    private static void noTruth() {
        ThreeSizes x = Due.with(A + S + KEEPS + "stock a 40 9;");
        x.person(0, 40);
        String seen = Due.seen(x);
        Due.is("no truth", x.truth(0), -1);
        Due.is("no trial", x.trial(0, 0, 0), -1);
        Due.same("it did nothing", Due.seen(x), seen);
        x.draw(1);
        Due.is("the truth", x.truth(0), 1);
        for (int none : new int[] {-1, 1, 8, Integer.MIN_VALUE, Integer.MAX_VALUE}) {
            Due.is("last " + none, x.truth(none), -1);
        }
        x.person(0, 40);
        Due.is("who came behind it has no foot", x.who(1, 6), -1);
        Due.is("and no trial", x.trial(1, 0, 0), -1);
        Due.is("the other has", x.trial(0, 0, 0), 2);
        Due.think(x, new int[][] {{0, 40, 0, 0, 10000, 0, 0}}, new int[][] {{0, 10000, 0}});
        Due.is("an image has none of people", x.trial(0, 0, 0), -1);
        x.draw(1);
        Due.is("now it has", x.trial(0, 0, 0), 2);
    }

    /** "a DRAW of 10000 below its chance to be KEPT keeps its best pair" */
    private static void belowItsChance() {
        // 100 - wear of 100 times keeps: the third draw of a seed against chances of 10000.
        for (int from = 0; from < 40; from++) {
            seed = from;
            drawn();
            drawn();
            int drawn = drawn();
            for (int keeps = drawn / 100; keeps <= drawn / 100 + 1; keeps++) {
                ThreeSizes x = Due.with(A + S + "keeps 0 0 " + keeps + " 0 0;stock a 40 9;");
                x.person(0, 40);
                x.draw(from);
                Due.is(drawn + " of " + 100 * keeps, x.trial(0, 0, 0), drawn < 100 * keeps ? 2 : 5);
                Due.is("came back", x.who(0, 2), 1);
                Due.is("whole", x.who(0, 3), drawn < 100 * keeps ? 0 : 1);
            }
        }
        for (int from : new int[] {seedOf(4999), seedOf(5000), seedOf(5001)}) {
            seed = from;
            drawn();
            drawn();
            int drawn = drawn();
            ThreeSizes x = Due.with(A + S + "keeps 0 0 50 0 0;stock a 40 9;");
            x.person(0, 40);
            x.draw(from);
            Due.is(drawn + " of 5000", x.trial(0, 0, 0), drawn < 5000 ? 2 : 5);
        }
    }

    /** A seed whose third draw is this. */
    private static int seedOf(int third) {
        for (int from = 0; from < 1000000; from++) {
            seed = from;
            drawn();
            drawn();
            if (drawn() == third) {
                return from;
            }
        }
        return -1;
    }

    /** "The best one .. of like ones the smallest"; "the pair KEPT and 2 (5: none)" */
    private static void trialsOfTwo() {
        String text = A + S + "stock a 38 9;stock a 39 9;stock a 40 9;stock a 41 9;stock a 42 9;";
        String[] keeps = {"keeps 0 100 99 100 0;", "keeps 0 99 100 99 0;", "keeps 100 0 0 0 100;", "keeps 99 0 0 0 100;"};
        String[] rules = {"send below same above when all;", "send below same above when all;",
            "send down up when all;", "send down up when all;"};
        int[] due = {1, 2, 0, 4};
        for (int i = 0; i < 4; i++) {
            ThreeSizes x = Due.with(text + keeps[i]);
            x.person(0, 40);
            Due.rule(x, 2, rules[i]);
            x.draw(1);
            Due.is("kept", x.trial(0, 0, 5), due[i]);
            Due.is("the others are on their way", x.has(10), i < 2 ? 2 : 1);
            Due.is("stock of the kept one", x.stock(0, 38 + due[i]), 8);
        }
        ThreeSizes x = Due.with(text);
        x.person(0, 40);
        Due.rule(x, 0, "send down when all;");
        x.draw(1);
        Due.is("none, of 2 below alone", x.trial(0, 0, 3), 5);
    }

    /** "A TRIAL by a WAY: the BOX, if all its pairs are in stock, is SENT" */
    private static void trialsInStock() {
        ThreeSizes x = Due.with(A + S + KEEPS + "stock a 40 2;stock a 41 1;stock a 42 1;");
        x.person(0, 40);
        x.person(0, 44);
        x.draw(1);
        Due.is("both", x.trial(0, 0, 1), 2);
        String seen = Due.seen(x);
        Due.is("41 is on its way", x.trial(0, 0, 1), -1);
        Due.same("it did nothing", Due.seen(x), seen);
        Due.is("40 is in stock", x.trial(0, 0, 0), 2);
        Due.is("the last one went", x.trial(0, 0, 0), -1);
        Due.is("the best one that is", x.trial(0, 0, 2), 5);
        Due.is("none is", x.trial(0, 0, 2), -1);
        Due.is("none for 44, 42 being on its way", x.trial(1, 0, 2), -1);
        x.days(7);
        Due.is("42 for 44", x.trial(1, 0, 2), 5);
        Due.is("44 is none", x.trial(1, 0, 0), -1);
    }

    /** "trial(person, last, way): .. NONE, doing nothing, when something can't be, the PERSON has a BOX, .. or no such BOX" */
    private static void trialsThatCantBe() {
        ThreeSizes x = Due.with(A + S + KEEPS + "stock a 40 9;stock a 41 9;");
        x.person(0, 40);
        x.person(0, 41);
        Due.rule(x, 1, "send up when not all;");
        x.draw(1);
        String seen = Due.seen(x);
        for (int none : new int[] {-1, 6, 7, Integer.MIN_VALUE, Integer.MAX_VALUE}) {
            Due.is("way " + none, x.trial(0, 0, none), -1);
        }
        for (int none : new int[] {-1, 2, 20, Integer.MIN_VALUE, Integer.MAX_VALUE}) {
            Due.is("person " + none, x.trial(none, 0, 0), -1);
            Due.is("last " + none, x.trial(0, none, 0), -1);
        }
        Due.is("last 1", x.trial(0, 1, 0), -1);
        Due.is("no rule 0", x.trial(0, 0, 3), -1);
        Due.is("rule 1 has no box", x.trial(0, 0, 4), -1);
        Due.is("no rule 2", x.trial(0, 0, 5), -1);
        Due.same("they did nothing", Due.seen(x), seen);
        x.send(0, 0, 8);
        seen = Due.seen(x);
        for (int way = 0; way < 6; way++) {
            Due.is("has a box", x.trial(0, 0, way), -1);
        }
        Due.same("they did nothing", Due.seen(x), seen);
        // None of them drew: seed 1, behind the run and two feet.
        ThreeSizes y = Due.with(A + S + "keeps 0 0 50 0 0;stock a 40 99;stock a 41 99;");
        y.person(0, 40);
        y.person(0, 41);
        y.send(0, 0, 8);
        for (int from = 0; from < 20; from++) {
            y.draw(from);
            y.trial(0, 0, 0);
            y.trial(1, 0, 7);
            y.trial(1, 0, 3);
            seed = from;
            drawn();
            drawn();
            drawn();
            Due.is("first drawn", y.trial(1, 0, 0), drawn() < 5000 ? 2 : 5);
            Due.is("then drawn", y.trial(1, 0, 0), drawn() < 5000 ? 2 : 5);
        }
    }

    /** "it COMES BACK so (if that can't come by what is THOUGHT, nothing is LEARNT)" */
    private static void nothingIsLearnt() {
        ThreeSizes x = Due.with(A + EVEN + KEEPS + "fare 3;" + stock("a", 38, 42, 9) + "ask q 0 100 0 0 0;");
        Due.rule(x, 0, "send below when all;");
        Due.rule(x, 1, "send above when all;");
        x.person(0, 40);
        int from = 0;
        for (x.draw(from); x.who(0, 6) != 3 && from < 100; from++) {
            x.draw(from);
        }
        Due.is("the foot is 1 above", x.who(0, 6), 3);
        Due.is("but said to be below", x.answer(0, 0, true), true);
        Due.feet(x, 0, 0, 10000, 0, 0, 0);
        Due.is("39 can't come back by what is thought", x.keeps(0, 0, 2, 3), 0);
        Due.is("it does", x.trial(0, 0, 3), 5);
        Due.feet(x, 0, 0, 10000, 0, 0, 0);
        Due.is("earned", x.earned(), -6);
        Due.is("whole", x.who(0, 3), 1);
        Due.is("41 can't be kept by what is thought", x.keeps(0, 0, 8, 1), 0);
        Due.is("it is", x.trial(0, 0, 4), 3);
        Due.feet(x, 0, 0, 10000, 0, 0, 0);
        Due.is("earned", x.earned(), -6 + 97);
        Due.is("came back", x.who(0, 2), 2);
        x.person(0, 41);
        keep(x, 1, 0, 42);
        Due.is("41 was kept, not 42", x.alike(0, 1), 0);
        keep(x, 1, 0, 42);
        Due.is("on the way", x.has(10), 1);
    }
}
