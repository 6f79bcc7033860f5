/** Promises 13 (keeps), 14 (after), 15 (teaches), 16 (mean), 17 (best), 19 (way). */
public final class BoxTest {
    private static final int NOTHING = ThreeSizes.NOTHING;
    private static final String HOUSE = "last a price 100 runs 20 50 30;"
            + "sort s off 10 20 40 20 10 wear 25 grow 0 leave 3;keeps 5 30 90 40 10;fare 7;wipe 3;fee 4;"
            + "stock a 39 1;stock a 40 1;stock a 41 1;";

    public static void main(String[] args) {
        weights();
        likeOnes();
        cantBe();
        learnt();
        means();
        best();
        bestOfLikeOnes();
        ways();
        Due.rest("BoxTest");
    }

    private static void weights() {
        ThreeSizes x = Due.with(HOUSE);
        x.person(0, 40);
        // By foot: 13, 41, 63, 43, 11.5 of 100 please; 44.45 together, three quarters of it are honest.
        Due.is("kept", x.keeps(0, 0, 4, 0), 333375000000L);
        Due.is("none", x.keeps(0, 0, 4, 3), 666625000000L);
        long together = x.keeps(0, 0, 21, -2) + x.keeps(0, 0, 21, 0) + x.keeps(0, 0, 21, 2) + x.keeps(0, 0, 21, 3);
        Due.is("all of a box", together, 1000000000000L);
        x = Due.with("last a price 1 runs 0 100 0;sort s off 0 0 0 0 100 wear 100 grow 0 leave 0;keeps 9 9 9 9 9;");
        x.person(0, 40);
        Due.is("all wear and return", x.keeps(0, 0, 16, 2), 0);
        Due.is("all come back", x.keeps(0, 0, 16, 3), 1000000000000L);
    }

    /** Of pairs that please alike the smallest is the best one; what is off by 3 pleases none. */
    private static void likeOnes() {
        ThreeSizes x = Due.with("last a price 1 runs 0 100 0;sort s off 0 0 0 50 50 wear 0 grow 0 leave 0;"
                + "keeps 50 50 50 50 50;");
        x.person(0, 40);
        Due.is("the smaller one", x.keeps(0, 0, 6, -1), 250000000000L);
        Due.is("the larger one where the smaller is off by 3", x.keeps(0, 0, 6, 0), 250000000000L);
        Due.is("of three", x.keeps(0, 0, 28, 0), 500000000000L);
        Due.is("never the others", x.keeps(0, 0, 28, 1) + x.keeps(0, 0, 28, 2), 0);
        x = Due.with("last a price 1 runs 100 0 0;sort s off 0 0 0 100 0 wear 0 grow 0 leave 0;keeps 1 2 4 8 16;");
        x.person(0, 40);
        Due.is("runs small, foot above: 2 too small", x.keeps(0, 0, 4, 0), 10000000000L);
        Due.is("1 too small", x.keeps(0, 0, 8, 1), 20000000000L);
        Due.is("fits", x.keeps(0, 0, 16, 2), 40000000000L);
        Due.is("3 too small", x.keeps(0, 0, 2, -1), 0);
        x = Due.with("last a price 1 runs 0 0 100;sort s off 0 100 0 0 0 wear 0 grow 0 leave 0;keeps 1 2 4 8 16;");
        x.person(0, 40);
        Due.is("runs large, foot below: 2 too large", x.keeps(0, 0, 4, 0), 160000000000L);
        Due.is("1 too large", x.keeps(0, 0, 2, -1), 80000000000L);
        Due.is("3 too large", x.keeps(0, 0, 8, 1), 0);
    }

    private static void cantBe() {
        ThreeSizes x = Due.with(HOUSE);
        x.person(0, 40);
        x.person(0, 49);
        x.person(0, 30);
        int[][] wrong = {{-1, 0, 4}, {3, 0, 4}, {0, -1, 4}, {0, 1, 4}, {0, 0, 0}, {0, 0, -4}, {0, 0, 32}, {0, 0, 36},
            {0, 0, 15}, {0, 0, 31}, {1, 0, 8}, {1, 0, 20}, {2, 0, 2}, {2, 0, 5}, {0, 0, Integer.MIN_VALUE + 4}};
        for (int[] box : wrong) {
            String what = " of " + box[0] + " " + box[1] + " " + box[2];
            Due.is("keeps" + what, x.keeps(box[0], box[1], box[2], 3), -1);
            Due.is("after" + what, x.after(box[0], box[1], box[2], 3, 0), -1);
            Due.is("teaches" + what, x.teaches(box[0], box[1], box[2], 3, 0), -1);
            Due.is("mean" + what, x.mean(box[0], box[1], box[2], false), NOTHING);
            Due.is("ordered mean" + what, x.mean(box[0], box[1], box[2], true), NOTHING);
            Due.is("send" + what, x.send(box[0], box[1], box[2]), -1);
            Due.is("step" + what, x.step(box[0], box[1], box[2]), -1);
        }
        int[] notIn = {-3, -2, -1, 1, 2, 4, 5, Integer.MAX_VALUE, Integer.MIN_VALUE};
        for (int e : notIn) {
            Due.is("keeps of e " + e, x.keeps(0, 0, 4, e), -1);
            Due.is("after of e " + e, x.after(0, 0, 4, e, 0), -1);
            Due.is("teaches of e " + e, x.teaches(0, 0, 4, e, 0), -1);
        }
        Due.is("at the edge above", x.keeps(1, 0, 7, 3) > 0, true);
        Due.is("at the edge below", x.keeps(2, 0, 28, 3) > 0, true);
    }

    private static void learnt() {
        ThreeSizes x = Due.with(HOUSE);
        x.person(0, 40);
        int[] foot = {292, 1844, 5672, 1934, 258};
        for (int d = -2; d <= 2; d++) {
            Due.is("after, d " + d, x.after(0, 0, 4, 0, d), foot[d + 2]);
        }
        int[] run = {1574, 5794, 2632};
        for (int r = -1; r <= 1; r++) {
            Due.is("teaches, run " + r, x.teaches(0, 0, 4, 0, r), run[r + 1]);
        }
        Due.is("d 3", x.after(0, 0, 4, 0, 3), -1);
        Due.is("d -3", x.after(0, 0, 4, 0, -3), -1);
        Due.is("run 2", x.teaches(0, 0, 4, 0, 2), -1);
        Due.is("run -2", x.teaches(0, 0, 4, 0, -2), -1);
        Due.is("nothing changed", x.foot(0, 0), 4000);
        Due.is("nothing changed of the last", x.last(0, 0), 5000);
        x = Due.with("last a price 1 runs 50 0 50;sort s off 30 0 40 0 30 wear 0 grow 0 leave 0;"
                + "keeps 0 0 90 0 0;ask q 0 0 0 0 0;");
        x.person(0, 40);
        Due.is("it can't come", x.after(0, 0, 4, 0, 0), -1);
        Due.is("it can't come for the last", x.teaches(0, 0, 4, 0, 0), -1);
        x = Due.with("last a price 1 runs 0 100 0;sort s off 0 30 30 30 10 wear 0 grow 0 leave 0;keeps 0 50 50 50 0;");
        x.person(0, 40);
        int[] thirds = {0, 3334, 3333, 3333, 0};
        for (int d = -2; d <= 2; d++) {
            Due.is("what lacks comes to the first of like ones, d " + d, x.after(0, 0, 4, 0, d), thirds[d + 2]);
        }
        Due.is("the last stays certain", x.teaches(0, 0, 4, 0, 0), 10000);
    }

    private static void means() {
        ThreeSizes x = Due.with(HOUSE);
        x.person(0, 40);
        // 0.333375 * (100 - 7) + 0.666625 * (4 - 14 - 3) = 22.33775
        Due.is("mean", x.mean(0, 0, 4, false), 2233);
        Due.is("12 of 100 are driven off", x.mean(0, 0, 4, true), 1965);
        x.fee(33);
        Due.is("mean with another fee", x.mean(0, 0, 4, false), 4166);
        Due.is("one of 100 orders", x.mean(0, 0, 4, true), 41);
        x.fee(34);
        Due.is("none orders", x.mean(0, 0, 4, true), 0);
        x = Due.with("last a price 0 runs 0 100 0;sort s off 0 0 100 0 0 wear 0 grow 0 leave 1;"
                + "keeps 0 0 33 0 0;fare 1;wipe 2;fee 1;");
        x.person(0, 40);
        // one: 0.33 * -1 + 0.67 * (1 - 2 - 2) = -2.34
        Due.is("below 0", x.mean(0, 0, 4, false), -234);
        Due.is("rounded down", x.mean(0, 0, 4, true), -232);
        // three: 0.33 * (-1 - 1 - 4) + 0.67 * (1 - 2 - 6) = -6.67
        Due.is("three pairs", x.mean(0, 0, 14, false), -667);
        x = Due.with("last a price 9999 runs 0 100 0;sort s off 0 0 100 0 0 wear 0 grow 0 leave 0;"
                + "keeps 0 0 100 0 0;fare 9999;wipe 9999;");
        x.person(0, 40);
        Due.is("the dearest kept", x.mean(0, 0, 14, false), -2999700);
        Due.is("the dearest whole", x.mean(0, 0, 11, false), -4999500);
        x = Due.with("last a price 1 runs 0 100 0;sort s off 0 0 100 0 0 wear 99 grow 0 leave 0;keeps 0 0 1 0 0;");
        x.person(0, 40);
        Due.is("a ten-thousandth of 100 hundredths", x.mean(0, 0, 4, false), 0);
        Due.house(x, "last a price 0 runs 0 100 0;sort s off 0 0 100 0 0 wear 99 grow 0 leave 0;"
                + "keeps 0 0 1 0 0;fare 1;wipe 0;fee 2;");
        x.person(0, 40);
        Due.is("floor of a small loss", x.mean(0, 0, 4, false), -1);
    }

    private static void best() {
        ThreeSizes x = Due.with(HOUSE);
        x.person(0, 40);
        x.person(0, 43);
        x.person(0, 45);
        int found = 0;
        int mean = NOTHING;
        for (int bits : new int[] {2, 4, 8, 6, 10, 12, 14}) {
            if (x.mean(0, 0, bits, false) > mean) {
                mean = x.mean(0, 0, bits, false);
                found = bits;
            }
        }
        Due.is("best bits", x.best(0, 0, false), found);
        Due.is("best mean", x.best(0, 0, true), mean);
        Due.is("only one in reach", x.best(1, 0, false), 1);
        Due.is("its mean", x.best(1, 0, true), x.mean(1, 0, 1, false));
        Due.is("none in stock", x.best(2, 0, false), 0);
        Due.is("no mean", x.best(2, 0, true), NOTHING);
        Due.is("no person", x.best(3, 0, false), -1);
        Due.is("no person, mean", x.best(3, 0, true), NOTHING);
        Due.is("no last", x.best(0, 1, false), -1);
        Due.is("no last, mean", x.best(0, -1, true), NOTHING);
        x.send(1, 0, 1);
        Due.is("the last one went", x.best(1, 0, false), 0);
    }

    private static void bestOfLikeOnes() {
        ThreeSizes x = Due.with("last a price 0 runs 0 100 0;sort s off 0 0 100 0 0 wear 0 grow 0 leave 0;"
                + "stock a 39 1;stock a 40 1;stock a 41 1;");
        x.person(0, 40);
        Due.is("all alike: the fewest pairs, the least bits", x.best(0, 0, false), 2);
        x = Due.with("last a price 10 runs 0 100 0;sort s off 0 0 100 0 0 wear 0 grow 0 leave 0;keeps 0 0 50 0 0;"
                + "stock a 38 1;stock a 40 1;stock a 41 1;");
        x.person(0, 40);
        Due.is("5 and 12 are no better than 4", x.best(0, 0, false), 4);
        x = Due.with("last a price 10 runs 0 100 0;sort s off 0 50 0 50 0 wear 0 grow 0 leave 0;keeps 0 0 50 0 0;"
                + "stock a 39 1;stock a 40 1;stock a 41 1;stock a 38 1;stock a 42 1;");
        x.person(0, 40);
        Due.is("two pairs, not three", x.best(0, 0, false), 10);
        x = Due.with("last a price 0 runs 0 100 0;sort s off 0 0 100 0 0 wear 0 grow 0 leave 0;fee 1;wipe 1;"
                + "keeps 0 0 100 0 0;stock a 38 1;stock a 39 1;stock a 40 1;");
        x.person(0, 40);
        Due.is("a loss may be the best", x.best(0, 0, true), 0);
    }

    private static void ways() {
        ThreeSizes x = Due.with(HOUSE);
        x.person(0, 40);
        x.person(0, 49);
        Due.rule(x, 0, "send below same when kind = 0;");
        Due.rule(x, 1, "send above when kind = 1;");
        Due.is("as asked", x.way(0, 0, 0), x.mean(0, 0, 4, true));
        Due.is("as asked and above", x.way(1, 0, 0), x.mean(0, 0, 12, true));
        Due.is("unlike ways", x.way(0, 0, 0) != x.way(1, 0, 0), true);
        Due.is("the best", x.way(2, 0, 0), x.mean(0, 0, x.best(0, 0, false), true));
        Due.is("rule 0", x.way(3, 0, 0), x.mean(0, 0, 6, true));
        Due.is("rule 1 has no box", x.way(4, 0, 0), NOTHING);
        Due.is("no rule 2", x.way(5, 0, 0), NOTHING);
        Due.is("way 6", x.way(6, 0, 0), NOTHING);
        Due.is("way -1", x.way(-1, 0, 0), NOTHING);
        Due.is("49 as asked, not in stock", x.way(0, 1, 0), x.mean(1, 0, 4, true));
        Due.is("above 49 left out", x.way(1, 1, 0), x.mean(1, 0, 4, true));
        Due.is("no best one", x.way(2, 1, 0), NOTHING);
        Due.is("no person", x.way(0, 2, 0), NOTHING);
        Due.is("person -1", x.way(0, -1, 0), NOTHING);
        Due.is("no last", x.way(0, 0, 1), NOTHING);
        Due.is("last -1", x.way(3, 0, -1), NOTHING);
    }
}
