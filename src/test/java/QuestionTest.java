/** Promises 25 (answer), 26 (worth), 27 (question), 28 (fee), 29 (step). */
public final class QuestionTest {
    private static final int NOTHING = ThreeSizes.NOTHING;
    private static final String HOUSE = "last a price 100 runs 0 100 0;last b price 50 runs 0 100 0;"
            + "sort s off 0 50 0 50 0 wear 0 grow 0 leave 2;keeps 0 0 80 0 0;fare 10;wipe 5;";
    private static final String STOCK = "stock a 39 9;stock a 40 9;stock a 41 9;";

    public static void main(String[] args) {
        answers();
        worths();
        worthOfWhatCantCome();
        questions();
        fees();
        steps();
        Due.rest("QuestionTest");
    }

    private static void feet(ThreeSizes x, int person, int... due) {
        for (int d = -2; d <= 2; d++) {
            Due.is("foot(" + person + ", " + d + ")", x.foot(person, d), due[d + 2]);
        }
    }

    private static void answers() {
        ThreeSizes x = Due.with("sort s off 10 20 40 20 10 wear 0 grow 0 leave 0;ask q 90 50 30 0 100;"
                + "ask never 0 0 0 0 0;ask ever 100 100 100 100 100;");
        x.person(0, 40);
        x.person(0, 40);
        // 900, 1000, 1200, 0, 1000 of 4100
        Due.is("yes", x.answer(0, 0, true), true);
        feet(x, 0, 2195, 2439, 2927, 0, 2439);
        // 100, 1000, 2800, 2000, 0 of 5900
        Due.is("no", x.answer(1, 0, false), true);
        feet(x, 1, 169, 1694, 4748, 3389, 0);
        Due.is("yes that can't come", x.answer(0, 1, true), false);
        Due.is("no that can't come", x.answer(0, 2, false), false);
        feet(x, 0, 2195, 2439, 2927, 0, 2439);
        Due.is("no to never", x.answer(0, 1, false), true);
        feet(x, 0, 2195, 2439, 2927, 0, 2439);
        Due.is("no question 3", x.answer(0, 3, true), false);
        Due.is("question -1", x.answer(0, -1, true), false);
        Due.is("no person", x.answer(2, 0, true), false);
        Due.is("person -1", x.answer(-1, 0, true), false);
        x = Due.with("sort s off 0 0 0 30 70 wear 0 grow 0 leave 0;ask q 0 0 0 0 0;ask w 100 100 100 100 0;");
        x.person(0, 40);
        Due.is("yes to w", x.answer(0, 1, true), true);
        feet(x, 0, 0, 0, 0, 10000, 0);
        Due.is("no to w can't come any more", x.answer(0, 1, false), false);
    }

    private static void worths() {
        ThreeSizes x = Due.with(HOUSE + STOCK + "ask q 0 100 0 0 0;ask none 50 50 50 50 50;ask w 0 100 0 50 0;");
        x.person(0, 40);
        // Now: both 39 and 41, 0.8 * (100 - 20 - 5) - 0.2 * 30 = 54.
        Due.is("best now", x.best(0, 0, true), 5400);
        // Behind q one is enough: 0.8 * 90 - 0.2 * 25 = 67.
        Due.is("q tells all", x.worth(0, 0, 0), 1300);
        Due.is("half yes tells nothing", x.worth(1, 0, 0), 0);
        // yes, 750000: 6666 to 3334; 39 alone 0.53328 * 90 - 0.46672 * 25 = 36.3272, both 54.
        // no, 250000: 41 alone 67.
        Due.is("w tells some", x.worth(2, 0, 0), (5400 * 750000L + 6700 * 250000L) / 1000000 - 5400);
        Due.is("nothing changed", x.foot(0, -1), 5000);
        Due.is("no question", x.worth(3, 0, 0), NOTHING);
        Due.is("question -1", x.worth(-1, 0, 0), NOTHING);
        Due.is("no person", x.worth(0, 1, 0), NOTHING);
        Due.is("person -1", x.worth(0, -1, 0), NOTHING);
        Due.is("no last", x.worth(0, 0, 2), NOTHING);
        Due.is("last -1", x.worth(0, 0, -1), NOTHING);
        Due.is("none in stock", x.worth(0, 0, 1), NOTHING);
        Due.is("question of what is not in stock", x.question(0, 1), -1);
    }

    private static void worthOfWhatCantCome() {
        ThreeSizes x = Due.with(HOUSE + STOCK + "ask never 0 0 0 0 0;ask ever 100 100 100 100 100;");
        x.person(0, 40);
        Due.is("never", x.worth(0, 0, 0), 0);
        Due.is("ever", x.worth(1, 0, 0), 0);
        Due.is("the first of like ones", x.question(0, 0), 0);
    }

    private static void questions() {
        ThreeSizes x = Due.with(HOUSE + STOCK + "ask none 50 50 50 50 50;ask w 0 100 0 50 0;ask q 0 100 0 0 0;"
                + "ask r 0 0 0 100 0;");
        x.person(0, 40);
        Due.is("the most, the first of like ones", x.question(0, 0), 2);
        Due.is("no person", x.question(1, 0), -1);
        Due.is("person -1", x.question(-1, 0), -1);
        Due.is("no last", x.question(0, 2), -1);
        Due.is("last -1", x.question(0, -1), -1);
        x = Due.with(HOUSE + STOCK);
        x.person(0, 40);
        Due.is("no questions", x.question(0, 0), -1);
        // Yes, 336800: 0.54904, no, 663200: 0.55797; now 0.55502. Rounded down: 54 and 55, now 55.
        x = Due.with("last a price 4 runs 0 100 0;sort s off 0 33 33 34 0 wear 7 grow 0 leave 0;keeps 0 7 31 7 0;"
                + "stock a 40 1;ask q 0 33 33 35 0;");
        x.person(0, 40);
        Due.is("worth below 0", x.worth(0, 0, 0), -1);
        Due.is("it is the question all the same", x.question(0, 0), 0);
    }

    private static void fees() {
        ThreeSizes x = Due.with(HOUSE + STOCK + "fee 8;");
        x.person(0, 40);
        Due.is("100", x.fee(100), -1);
        Due.is("-1", x.fee(-1), -1);
        Due.is("it stays", x.has(7), 8);
        Due.is("99", x.fee(99), 8);
        Due.is("0", x.fee(0), 99);
        Due.is("has 7", x.has(7), 0);
        int free = x.mean(0, 0, 4, false);
        x.fee(10);
        Due.is("all whole: the fee comes in", x.mean(0, 0, 4, false), free + 1000);
        Due.is("and drives off 20", x.mean(0, 0, 4, true), Math.floorDiv((free + 1000) * 80, 100));
    }

    private static void steps() {
        // Nothing is ever kept: mean is 100 f - 100 * (20 + 5), 100 - 2 f order.
        ThreeSizes x = Due.with("last a price 100 runs 0 100 0;sort s off 0 0 100 0 0 wear 0 grow 0 leave 2;"
                + "sort t off 0 0 100 0 0 wear 0 grow 0 leave 0;sort u off 0 0 100 0 0 wear 0 grow 0 leave 100;"
                + "keeps 0 0 50 0 0;fare 10;wipe 5;fee 3;");
        x.person(0, 40);
        x.person(1, 40);
        x.person(2, 40);
        // (f - 25) (100 - 2 f) / 100 is greatest at 37 and 38: 12 * 26 = 312, 13 * 24 = 312.
        Due.is("of like ones the least", x.step(0, 0, 1), 37);
        Due.is("none leaves", x.step(1, 0, 1), 99);
        Due.is("a loss: none shall order", x.step(2, 0, 1), 1);
        Due.is("a gain: all shall order", x.step(2, 0, 4), 0);
        Due.is("the fee stays", x.has(7), 3);
        Due.is("no box", x.step(0, 0, 0), -1);
        Due.is("no person", x.step(3, 0, 4), -1);
        Due.is("no last", x.step(0, 1, 4), -1);
    }
}
