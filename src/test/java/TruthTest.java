/** Promises 35 (draw), 36 (truth), 37 (trial). */
public final class TruthTest {
    private static final String HOUSE = "last a price 100 runs 30 40 30;last b price 50 runs 0 34 66;"
            + "sort s off 20 20 20 20 20 wear 0 grow 0 leave 0;";
    private static final String STOCK = "fare 7;wipe 3;fee 4;stock a 39 9;stock a 40 9;stock a 41 2;stock b 40 1;";

    public static void main(String[] args) {
        draws();
        edgesOfDraws();
        noTruth();
        trials();
        trialsThatCantBe();
        nothingLearnt();
        wearers();
        Due.rest("TruthTest");
    }

    private static void draws() {
        ThreeSizes x = Due.with(HOUSE);
        x.person(0, 40);
        x.person(0, 40);
        Due.is("-1", x.draw(-1), -1);
        Due.is("least", x.draw(Integer.MIN_VALUE), -1);
        // Seed 3: 3038, 8486, 4135, 2101.
        Due.is("four draws", x.draw(3), 4);
        Due.is("3038 of 3000, 7000", x.truth(0), 1);
        Due.is("8486 of 0, 3400, 10000", x.truth(1), 2);
        Due.is("4135", x.who(0, 6), 2);
        Due.is("2101", x.who(1, 6), 1);
        // Seed 0: 192, 3321, 7871, 7920.
        Due.is("again", x.draw(0), 4);
        Due.is("192", x.truth(0), 0);
        Due.is("3321", x.truth(1), 1);
        Due.is("7871", x.who(0, 6), 3);
        Due.is("7920", x.who(1, 6), 3);
        // Seed 2147483647: 2199, 5312, 9116, 9860.
        Due.is("the greatest seed", x.draw(Integer.MAX_VALUE), 4);
        Due.is("2199", x.truth(0), 0);
        Due.is("5312", x.truth(1), 2);
        Due.is("9116", x.who(0, 6), 4);
        Due.is("9860", x.who(1, 6), 4);
        Due.is("thoughts stay", x.foot(0, 0), 2000);
        Due.is("nothing there", new ThreeSizes().draw(5), 0);
    }

    /** The first number all up to which is above the draw: one like the draw is not. */
    private static void edgesOfDraws() {
        ThreeSizes x = Due.with("last a price 1 runs 30 38 32;sort s off 0 0 100 0 0 wear 0 grow 0 leave 0;"
                + "ask q 0 0 0 0 0;");
        x.person(0, 40);
        x.image();
        byte[] image = new byte[20];
        for (int i = 0; i < 20; i++) {
            image[i] = (byte) x.octet(i);
        }
        int[][] runs = {{3038, 1, 6961}, {3039, 0, 6961}, {0, 3038, 6962}, {0, 3039, 6961}};
        int[] due = {1, 0, 2, 1};
        for (int k = 0; k < runs.length; k++) {
            for (int i = 0; i < 3; i++) {
                image[13 + 2 * i] = (byte) (runs[k][i] >> 8);
                image[14 + 2 * i] = (byte) runs[k][i];
            }
            image[19] = (byte) ImageTest.check(image, 19);
            Due.tape(x, image);
            x.on();
            x.draw(3);
            Due.is("3038 of " + runs[k][0] + ", " + runs[k][1], x.truth(0), due[k]);
        }
    }

    private static void noTruth() {
        ThreeSizes x = Due.with(HOUSE + STOCK + "keeps 0 0 100 0 0;");
        x.person(0, 40);
        Due.is("truth ahead of a draw", x.truth(0), -1);
        Due.is("foot ahead of a draw", x.who(0, 6), -1);
        Due.is("trial ahead of a draw", x.trial(0, 0, 0), -1);
        x.draw(1);
        x.person(0, 40);
        Due.is("someone new has none", x.who(1, 6), -1);
        Due.is("no trial", x.trial(1, 0, 0), -1);
        Due.is("no last", x.truth(2), -1);
        Due.is("last -1", x.truth(-1), -1);
        Due.is("the other has", x.trial(0, 0, 0) >= 0, true);
    }

    private static void trials() {
        ThreeSizes x = Due.with("last a price 100 runs 0 100 0;sort s off 0 0 100 0 0 wear 0 grow 0 leave 0;"
                + "keeps 0 0 74 30 0;" + STOCK.replace("stock b 40 1;", ""));
        x.person(0, 40);
        Due.rule(x, 1, "send above when all;");
        // Seed 3: 3038, 8486 for the truth; then 4135, 2101, 7374, 5249, 3520, 6465.
        x.draw(3);
        Due.is("4135 of 7400: kept", x.trial(0, 0, 0), 2);
        Due.is("earned", x.earned(), 93);
        Due.is("stock", x.stock(0, 40), 8);
        Due.is("no box is out", x.has(8), 0);
        Due.is("2101 of 7400, of two the best one", x.trial(0, 0, 1), 2);
        Due.is("earned", x.earned(), 93 + 83);
        Due.is("the other is on its way", x.has(10), 1);
        Due.is("7374 of 7400", x.trial(0, 0, 2), 2);
        Due.is("5249 of 3000: none", x.trial(0, 0, 4), 5);
        Due.is("earned", x.earned(), 93 + 83 + 93 - 13);
        Due.is("stock of 41", x.stock(0, 41), 0);
        Due.is("not in stock", x.trial(0, 0, 4), -1);
        Due.is("not in stock, one of two", x.trial(0, 0, 1), -1);
        Due.is("refusals draw nothing: 3520 of 7400", x.trial(0, 0, 0), 2);
        Due.is("6465 of 7400", x.trial(0, 0, 0), 2);
        Due.is("came back", x.who(0, 2), 6);
        Due.is("whole", x.who(0, 3), 1);
        x.days(7);
        Due.is("41 is there again", x.stock(0, 41), 2);
        x = Due.with("last a price 100 runs 0 100 0;sort s off 0 0 100 0 0 wear 0 grow 0 leave 0;"
                + "keeps 0 0 50 0 0;stock a 40 9;stock a 38 9;");
        x.person(0, 40);
        x.draw(3);
        Due.is("4135 of 5000", x.trial(0, 0, 0), 2);
        Due.is("2101", x.trial(0, 0, 0), 2);
        Due.is("7374 of 5000", x.trial(0, 0, 0), 5);
    }

    private static void trialsThatCantBe() {
        ThreeSizes x = Due.with(HOUSE + STOCK + "keeps 0 0 100 0 0;");
        x.person(0, 40);
        x.person(0, 45);
        x.draw(3);
        Due.is("way 6", x.trial(0, 0, 6), -1);
        Due.is("way -1", x.trial(0, 0, -1), -1);
        Due.is("no rule", x.trial(0, 0, 3), -1);
        Due.is("no person", x.trial(2, 0, 0), -1);
        Due.is("person -1", x.trial(-1, 0, 0), -1);
        Due.is("no last", x.trial(0, 2, 0), -1);
        Due.is("last -1", x.trial(0, -1, 0), -1);
        Due.is("not in stock", x.trial(1, 0, 0), -1);
        Due.is("no best one", x.trial(1, 0, 2), -1);
        x.send(0, 1, 4);
        Due.is("has a box", x.trial(0, 0, 0), -1);
        Due.is("the box is still out", x.who(0, 4), 1);
        Due.is("nothing came", x.who(0, 2), 0);
        Due.is("nothing taken", x.stock(0, 40), 9);
    }

    /** The truth was drawn ahead of what is thought now: what can't come teaches nothing. */
    private static void nothingLearnt() {
        ThreeSizes x = Due.with("last a price 100 runs 0 100 0;sort s off 0 50 0 50 0 wear 0 grow 0 leave 0;"
                + "keeps 0 0 100 0 0;fare 1;stock a 39 9;stock a 41 9;ask q 0 100 0 0 0;");
        x.person(0, 40);
        Due.rule(x, 0, "send below when all;");
        // Seed 3: 3038 and 8486: the foot is 1 above.
        x.draw(3);
        Due.is("the foot", x.who(0, 6), 3);
        x.answer(0, 0, true);
        Due.is("it is thought to be 1 below", x.foot(0, -1), 10000);
        Due.is("none, which can't come", x.trial(0, 0, 3), 5);
        Due.is("it is still thought so", x.foot(0, -1), 10000);
        Due.is("it came back all the same", x.who(0, 2), 1);
        Due.is("whole", x.who(0, 3), 1);
        Due.is("earned", x.earned(), -2);
        Due.is("on the way", x.has(10), 1);
        Due.rule(x, 0, "send below above when all;");
        Due.is("the pair above is kept", x.trial(0, 0, 3), 3);
        Due.is("it is still thought so", x.foot(0, -1), 10000);
        x.person(0, 41);
        Due.is("it was 41 that was kept", x.alike(0, 1), 0);
        x = Due.with("last a price 100 runs 0 100 0;sort s off 0 50 0 50 0 wear 0 grow 0 leave 0;"
                + "keeps 0 0 100 0 0;stock a 39 9;stock a 41 9;");
        x.person(0, 40);
        Due.rule(x, 0, "send above when all;");
        x.draw(3);
        Due.is("kept", x.trial(0, 0, 3), 3);
        Due.is("that is learnt", x.foot(0, 1), 10000);
    }

    private static void wearers() {
        ThreeSizes x = Due.with("last a price 100 runs 0 100 0;sort s off 0 0 100 0 0 wear 50 grow 0 leave 0;"
                + "keeps 0 0 100 0 0;stock a 40 9;");
        x.person(0, 40);
        x.draw(3);
        Due.is("4135 of 5000", x.trial(0, 0, 0), 2);
        Due.is("2101 of 5000", x.trial(0, 0, 0), 2);
        Due.is("7374 of 5000", x.trial(0, 0, 0), 5);
        Due.is("5249 of 5000", x.trial(0, 0, 0), 5);
        Due.is("3520 of 5000", x.trial(0, 0, 0), 2);
        // Seed 8727: the third draw is 5000, which is not below its chance.
        x.draw(8727);
        Due.is("5000 of 5000", x.trial(0, 0, 0), 5);
    }
}
