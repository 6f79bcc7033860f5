/** Promises 20 (send), 21 (back), 22 (days), 23 (stock), 24 (earned). */
public final class SendTest {
    private static final String HOUSE = "last a price 100 runs 20 50 30;last b price 70 runs 0 100 0;"
            + "sort s off 10 20 40 20 10 wear 25 grow 0 leave 3;keeps 5 30 90 40 10;fare 7;wipe 3;fee 4;"
            + "stock a 39 1;stock a 40 2;stock a 41 1;stock b 40 99;";

    public static void main(String[] args) {
        sends();
        backs();
        learns();
        daysGoBy();
        stocks();
        earns();
        Due.rest("SendTest");
    }

    private static void sends() {
        ThreeSizes x = Due.with(HOUSE);
        x.person(0, 40);
        x.person(0, 41);
        x.person(0, 40);
        Due.is("first box", x.send(0, 0, 14), 1);
        Due.is("39", x.stock(0, 39), 0);
        Due.is("40", x.stock(0, 40), 1);
        Due.is("41", x.stock(0, 41), 0);
        Due.is("b stays", x.stock(1, 40), 99);
        Due.is("one at a time", x.send(0, 0, 4), -1);
        Due.is("one at a time, of any last", x.send(0, 1, 4), -1);
        Due.is("a pair is not in stock", x.send(1, 0, 6), -1);
        Due.is("it took none", x.stock(0, 40), 1);
        Due.is("the one that is", x.send(1, 0, 2), 2);
        Due.is("none is left", x.send(2, 0, 4), -1);
        Due.is("of b", x.send(2, 1, 4), 3);
        Due.is("boxes", x.has(8), 3);
        Due.is("whose last", x.who(2, 4), 1);
        x.back(0, 3);
        Due.is("one less is out", x.has(8), 2);
    }

    private static void backs() {
        ThreeSizes x = Due.with(HOUSE);
        x.person(0, 40);
        Due.is("no box", x.back(0, 3), false);
        Due.is("no person", x.back(1, 3), false);
        Due.is("person -1", x.back(-1, 3), false);
        x.send(0, 0, 6);
        for (int e : new int[] {-3, -2, 1, 2, 4, 5, -100}) {
            Due.is("not in it: " + e, x.back(0, e), false);
        }
        Due.is("it is still out", x.who(0, 5), 6);
        Due.is("nothing came", x.who(0, 2), 0);
        Due.is("kept", x.back(0, -1), true);
        Due.is("it came", x.who(0, 2), 1);
        Due.is("not whole", x.who(0, 3), 0);
        Due.is("one on the way", x.has(10), 1);
        Due.is("once", x.back(0, -1), false);
        x = Due.with("last a price 1 runs 0 100 0;sort s off 0 0 100 0 0 wear 0 grow 0 leave 0;"
                + "keeps 0 0 100 0 0;stock a 40 2;stock a 41 1;");
        x.person(0, 40);
        x.send(0, 0, 12);
        Due.is("none can't come", x.back(0, 3), false);
        Due.is("41 can't come", x.back(0, 1), false);
        Due.is("still out", x.has(8), 1);
        Due.is("nothing earned", x.earned(), 0);
        Due.is("40 can", x.back(0, 0), true);
    }

    private static void learns() {
        ThreeSizes x = Due.with(HOUSE);
        x.person(0, 40);
        x.send(0, 0, 4);
        x.back(0, 0);
        int[] foot = {292, 1844, 5672, 1934, 258};
        for (int d = -2; d <= 2; d++) {
            Due.is("foot " + d, x.foot(0, d), foot[d + 2]);
        }
        int[] run = {1574, 5794, 2632};
        for (int r = -1; r <= 1; r++) {
            Due.is("run " + r, x.last(0, r), run[r + 1]);
            Due.is("the other last, run " + r, x.last(1, r), r == 0 ? 10000 : 0);
        }
        Due.is("the later box is weighed by it", x.keeps(0, 0, 4, 0) > 333375000000L, true);
        x = Due.with(HOUSE);
        x.person(0, 40);
        x.person(0, 40);
        x.send(0, 0, 4);
        x.send(1, 0, 4);
        x.back(1, 0);
        int due = x.after(0, 0, 4, 3, 0);
        x.back(0, 3);
        Due.is("by what is thought when it comes", x.foot(0, 0), due);
        Due.is("not as it was when it was sent", due != 4000, true);
    }

    private static void daysGoBy() {
        ThreeSizes x = Due.with(HOUSE);
        Due.is("0", x.days(0), -1);
        Due.is("-1", x.days(-1), -1);
        Due.is("101", x.days(101), -1);
        Due.is("1", x.days(1), 1);
        Due.is("100", x.days(100), 101);
        x.person(0, 40);
        x.person(0, 40);
        x.send(0, 0, 14);
        x.back(0, 0);
        Due.is("two on the way", x.has(10), 2);
        x.days(3);
        x.send(1, 0, 4);
        x.back(1, 3);
        Due.is("three on the way", x.has(10), 3);
        x.days(3);
        Due.is("39 on day 6", x.stock(0, 39), 0);
        x.days(1);
        Due.is("39 on day 7", x.stock(0, 39), 1);
        Due.is("41 on day 7", x.stock(0, 41), 1);
        Due.is("40 not yet", x.stock(0, 40), 0);
        Due.is("one on the way", x.has(10), 1);
        x.days(2);
        Due.is("40 a day ahead", x.stock(0, 40), 0);
        x.days(1);
        Due.is("40 a week later", x.stock(0, 40), 1);
        Due.is("none on the way", x.has(10), 0);
        x.send(0, 0, 4);
        x.back(0, 3);
        x.days(100);
        Due.is("once, however many days", x.stock(0, 40), 1);
        x.days(7);
        Due.is("and no more", x.stock(0, 40), 1);
    }

    private static void stocks() {
        ThreeSizes x = Due.with(HOUSE);
        Due.is("30", x.stock(0, 30), 0);
        Due.is("49", x.stock(0, 49), 0);
        Due.is("29", x.stock(0, 29), -1);
        Due.is("50", x.stock(0, 50), -1);
        Due.is("last 2", x.stock(2, 40), -1);
        Due.is("last -1", x.stock(-1, 40), -1);
        Due.is("99", x.stock(1, 40), 99);
    }

    private static void earns() {
        ThreeSizes x = Due.with(HOUSE);
        x.person(0, 40);
        Due.is("nothing yet", x.earned(), 0);
        x.send(0, 0, 4);
        Due.is("nothing while it is out", x.earned(), 0);
        x.back(0, 0);
        Due.is("one of one: 100 - 7", x.earned(), 93);
        x.send(0, 0, 14);
        x.back(0, 0);
        Due.is("one of three: 100 - 14 - 6", x.earned(), 93 + 80);
        x.send(0, 1, 4);
        x.back(0, 3);
        Due.is("none of one: 4 - 14 - 3", x.earned(), 93 + 80 - 13);
        x.days(7);
        x.send(0, 0, 10);
        x.fee(50);
        x.back(0, 3);
        Due.is("none of two: 50 - 14 - 6", x.earned(), 93 + 80 - 13 + 30);
        x.send(0, 1, 4);
        x.back(0, 0);
        Due.is("of b: 70 - 7", x.earned(), 93 + 80 - 13 + 30 + 63);
    }
}
