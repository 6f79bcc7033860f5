/** Promises 30 (print), 31 (alike), 32 (strangers), 33 (hold), 34 (year). */
public final class LearntTest {
    private static final String HOUSE = "last a price 100 runs 0 100 0;last b price 50 runs 0 100 0;"
            + "sort s off 20 20 20 20 20 wear 0 grow 0 leave 0;keeps 50 50 50 50 50;";

    public static void main(String[] args) {
        prints();
        printsFrom6000();
        alikes();
        alikeByLastAndSize();
        strangersTell();
        mostOften();
        strangersAtTheEdges();
        holds();
        holdsWithinReach();
        years();
        twentyPeople();
        Due.rest("LearntTest");
    }

    private static void prints() {
        ThreeSizes x = Due.with("last a price 1 runs 60 40 0;last b price 1 runs 59 41 0;last c price 1 runs 0 40 60;"
                + "last d price 1 runs 0 41 59;last e price 1 runs 0 100 0;last f price 1 runs 50 0 50;");
        int[] due = {-1, 0, 1, 0, 0, 0};
        for (int i = 0; i < due.length; i++) {
            Due.is("print(" + i + ")", x.print(i), due[i]);
        }
        Due.is("no last", x.print(6), -2);
        Due.is("last -1", x.print(-1), -2);
        x = Due.with("last a price 1 runs 50 50 0;sort s off 0 0 100 0 0 wear 0 grow 0 leave 0;"
                + "keeps 0 90 10 0 0;stock a 40 1;");
        x.person(0, 40);
        Due.is("not yet", x.print(0), 0);
        x.send(0, 0, 4);
        x.back(0, 0);
        Due.is("learnt: 9000 to 1000", x.print(0), -1);
    }

    private static void printsFrom6000() {
        ThreeSizes x = Due.with("last a price 1 runs 0 100 0;");
        int[][] runs = {{5999, 4001, 0, 0}, {6000, 4000, 0, -1}, {0, 4001, 5999, 0}, {0, 4000, 6000, 1}};
        for (int[] row : runs) {
            byte[] image = new byte[8];
            for (int i = 0; i < 3; i++) {
                image[1 + 2 * i] = (byte) (row[i] >> 8);
                image[2 + 2 * i] = (byte) row[i];
            }
            image[7] = (byte) ImageTest.check(image, 7);
            Due.tape(x, image);
            Due.is("on()", x.on(), true);
            Due.is("print of " + row[0] + ", " + row[2], x.print(0), row[3]);
        }
    }

    private static void keep(ThreeSizes x, int person, int last, int e) {
        Due.is("send", x.send(person, last, 1 << e + 2) > 0, true);
        Due.is("back", x.back(person, e), true);
    }

    private static String stock(String last, int from, int to) {
        StringBuilder text = new StringBuilder();
        for (int size = from; size <= to; size++) {
            text.append("stock ").append(last).append(" ").append(size).append(" 20;");
        }
        return text.toString();
    }

    private static void alikes() {
        ThreeSizes x = Due.with(HOUSE + stock("a", 36, 44) + stock("b", 36, 44));
        x.person(0, 40);
        x.person(0, 41);
        x.person(0, 44);
        Due.is("none kept", x.alike(0, 1), 0);
        keep(x, 0, 0, 1);
        Due.is("one kept", x.alike(0, 1), 0);
        keep(x, 1, 0, 1);
        Due.is("unlike sizes", x.alike(0, 1), 0);
        keep(x, 1, 1, 0);
        Due.is("unlike lasts", x.alike(0, 1), 0);
        x.send(1, 0, 4);
        Due.is("not yet back", x.alike(0, 1), 0);
        x.back(1, 0);
        Due.is("41 of a, both", x.alike(0, 1), 1);
        Due.is("either way", x.alike(1, 0), 1);
        Due.is("the third", x.alike(0, 2), 0);
        keep(x, 2, 0, -2);
        Due.is("42 of a", x.alike(1, 2), 1);
        Due.is("not with the first", x.alike(0, 2), 0);
        Due.is("oneself", x.alike(0, 0), -1);
        Due.is("no such", x.alike(0, 3), -1);
        Due.is("no such first", x.alike(3, 0), -1);
        Due.is("-1", x.alike(-1, 0), -1);
        x.send(0, 0, 4);
        x.back(0, 3);
        Due.is("a box sent back whole changes nothing", x.alike(0, 2), 0);
    }

    private static void alikeByLastAndSize() {
        ThreeSizes x = Due.with(HOUSE + stock("a", 36, 44) + stock("b", 36, 44));
        x.person(0, 40);
        x.person(0, 42);
        keep(x, 0, 1, -2);
        keep(x, 1, 0, 1);
        Due.is("38 of b, 43 of a", x.alike(0, 1), 0);
        Due.is("43 of a, 38 of b", x.alike(1, 0), 0);
        keep(x, 1, 1, -2);
        keep(x, 0, 1, 0);
        Due.is("40 of b, its own 2 below", x.alike(1, 0), 1);
        x.person(0, 42);
        x.person(0, 43);
        keep(x, 2, 0, 2);
        keep(x, 3, 0, 1);
        Due.is("44 of a, the one's 2 above", x.alike(2, 3), 1);
    }

    private static void strangersTell() {
        ThreeSizes x = Due.with(HOUSE + stock("a", 36, 44) + stock("b", 36, 44));
        x.person(0, 40);
        x.person(0, 40);
        x.person(0, 40);
        Due.is("no one alike", x.strangers(0, 0), -1);
        keep(x, 0, 0, 0);
        keep(x, 1, 1, 2);
        Due.is("still no one alike", x.strangers(0, 1), -1);
        keep(x, 1, 0, 0);
        Due.is("42 of b", x.strangers(0, 1), 42);
        Due.is("40 of a", x.strangers(0, 0), 40);
        Due.is("one's own do not count", x.strangers(1, 1), -1);
        keep(x, 2, 1, -2);
        Due.is("the third is not alike", x.strangers(0, 1), 42);
        keep(x, 2, 0, 0);
        Due.is("now it is: the least of like ones", x.strangers(0, 1), 38);
        Due.is("no person", x.strangers(3, 0), -1);
        Due.is("person -1", x.strangers(-1, 0), -1);
        Due.is("no last", x.strangers(0, 2), -1);
        Due.is("last -1", x.strangers(0, -1), -1);
    }

    private static void mostOften() {
        ThreeSizes x = Due.with(HOUSE + stock("a", 36, 44) + stock("b", 36, 44));
        x.person(0, 40);
        x.person(0, 40);
        x.person(0, 42);
        keep(x, 0, 0, 0);
        keep(x, 1, 0, 0);
        keep(x, 2, 0, -2);
        keep(x, 1, 1, -1);
        keep(x, 2, 1, -1);
        Due.is("39 and 41", x.strangers(0, 1), 39);
        keep(x, 1, 1, 1);
        Due.is("41 twice, of two people", x.strangers(0, 1), 41);
        keep(x, 1, 1, -1);
        Due.is("39 twice, of one", x.strangers(0, 1), 39);
        keep(x, 0, 1, 1);
        Due.is("one's own do not count", x.strangers(0, 1), 39);
    }

    private static void strangersAtTheEdges() {
        ThreeSizes x = Due.with(HOUSE + stock("a", 30, 32) + stock("b", 30, 30) + stock("b", 49, 49)
                + stock("a", 47, 49));
        x.person(0, 30);
        x.person(0, 30);
        keep(x, 0, 0, 1);
        keep(x, 1, 0, 1);
        keep(x, 1, 1, 0);
        Due.is("30", x.strangers(0, 1), 30);
        x.person(0, 49);
        x.person(0, 49);
        keep(x, 2, 0, -1);
        keep(x, 3, 0, -1);
        keep(x, 3, 1, 0);
        Due.is("49", x.strangers(2, 1), 49);
    }

    private static void holds() {
        ThreeSizes x = Due.with("last a price 100 runs 0 100 0;sort s off 0 0 100 0 0 wear 0 grow 0 leave 50;"
                + "sort t off 0 0 0 100 0 wear 0 grow 0 leave 0;keeps 0 10 80 20 0;fare 1;"
                + "stock a 40 1;stock a 41 2;stock a 42 1;stock a 49 1;stock a 30 1;");
        Due.is("no people", x.hold(0, 40), -1);
        x.person(0, 41);
        Due.is("the only one", x.hold(0, 40), 0);
        x.person(0, 40);
        Due.is("whom it fits best", x.hold(0, 40), 1);
        x.person(0, 40);
        Due.is("the first of like ones", x.hold(0, 40), 1);
        x.person(1, 39);
        Due.is("a foot above that asks for less", x.hold(0, 40), 1);
        x.send(1, 0, 8);
        Due.is("one with a box is left out", x.hold(0, 40), 2);
        Due.is("41: one is left", x.stock(0, 41), 1);
        Due.is("41", x.hold(0, 41), 0);
        x.send(2, 0, 4);
        Due.is("none is in stock", x.hold(0, 40), -1);
        Due.is("42", x.hold(0, 42), 0);
        Due.is("no one asks near 49", x.hold(0, 49), -1);
        Due.is("no one asks near 30", x.hold(0, 30), -1);
        Due.is("29", x.hold(0, 29), -1);
        Due.is("50", x.hold(0, 50), -1);
        Due.is("no last", x.hold(1, 40), -1);
        Due.is("last -1", x.hold(-1, 40), -1);
        ThreeSizes y = Due.with("last a price 100 runs 0 100 0;sort s off 0 0 100 0 0 wear 0 grow 0 leave 0;"
                + "keeps 0 10 80 20 0;stock a 40 2;");
        y.person(0, 40);
        Due.is("two are in stock", y.hold(0, 40), -1);
        y.send(0, 0, 4);
        Due.is("one is, but its person has a box", y.hold(0, 40), -1);
    }

    private static void holdsWithinReach() {
        ThreeSizes x = Due.with("last a price 100 runs 0 100 0;sort s off 0 0 100 0 0 wear 0 grow 0 leave 0;"
                + "keeps 20 0 0 0 10;stock a 40 1;");
        x.person(0, 37);
        x.person(0, 43);
        Due.is("off by 3", x.hold(0, 40), -1);
        x.person(0, 38);
        Due.is("2 above what is asked", x.hold(0, 40), 2);
        x.person(0, 42);
        Due.is("2 below what is asked", x.hold(0, 40), 3);
    }

    private static void twentyPeople() {
        ThreeSizes x = Due.with(HOUSE + stock("a", 36, 44) + "stock b 40 1;");
        for (int i = 0; i < 20; i++) {
            x.person(0, 40);
        }
        keep(x, 0, 0, 0);
        keep(x, 19, 0, 0);
        Due.is("a year of 20", x.year(), 20);
        Due.is("strangers of 20", x.strangers(0, 0), 40);
        Due.is("hold of 20", x.hold(1, 40) >= 0, true);
        Due.is("draws", x.draw(1), 22);
        Due.is("boxes", x.has(8), 0);
    }

    private static void years() {
        ThreeSizes x = Due.with("last a price 1 runs 20 50 30;sort s off 10 20 40 20 10 wear 0 grow 30 leave 0;"
                + "sort t off 10 20 40 20 10 wear 0 grow 0 leave 0;sort u off 10 20 40 20 10 wear 0 grow 100 leave 0;"
                + "sort w off 0 0 0 33 67 wear 0 grow 1 leave 0;ask q 33 33 33 34 33;ask r 0 50 35 17 0;");
        Due.is("no people", x.year(), 0);
        for (int sort = 0; sort < 4; sort++) {
            x.person(sort, 40);
        }
        x.draw(5);
        int truth = x.who(0, 6);
        Due.is("people", x.year(), 4);
        feet(x, 0, 700, 1700, 3400, 2600, 1600);
        feet(x, 1, 1000, 2000, 4000, 2000, 1000);
        feet(x, 2, 0, 1000, 2000, 4000, 3000);
        feet(x, 3, 0, 0, 0, 3267, 6733);
        x.year();
        feet(x, 2, 0, 0, 1000, 2000, 7000);
        // 490, 1400, 2890, 2840, 2380
        feet(x, 0, 490, 1400, 2890, 2840, 2380);
        x.year();
        // 343, 980 + 147, 2023 + 420, 1988 + 867, 2380 + 852
        feet(x, 0, 343, 1127, 2443, 2855, 3232);
        x.year();
        // 240, 788 + 102, 1710 + 338, 1998 + 732, 3232 + 856: two lack
        feet(x, 0, 240, 890, 2048, 2730, 4092);
        Due.is("the foot of the truth stays", x.who(0, 6), truth);
        Due.is("lasts stay", x.last(0, 0), 5000);
        Due.is("no day goes by", x.has(9), 0);
    }

    private static void feet(ThreeSizes x, int person, int... due) {
        for (int d = -2; d <= 2; d++) {
            Due.is("foot(" + person + ", " + d + ")", x.foot(person, d), due[d + 2]);
        }
    }
}
