/** Promises 9 (person), 10 (foot), 11 (last), 12 (who). */
public final class PeopleTest {
    private static final String HOUSE = "last a price 100 runs 20 50 30;"
            + "sort s off 10 20 40 20 10 wear 0 grow 0 leave 0;sort t off 0 0 0 0 100 wear 0 grow 0 leave 0;"
            + "keeps 0 0 50 0 0;stock a 40 9;stock a 41 9;";

    public static void main(String[] args) {
        persons();
        thoughts();
        who();
        Due.rest("PeopleTest");
    }

    private static void persons() {
        ThreeSizes x = Due.with(HOUSE);
        Due.is("sort -1", x.person(-1, 40), -1);
        Due.is("sort 2", x.person(2, 40), -1);
        Due.is("size 29", x.person(0, 29), -1);
        Due.is("size 50", x.person(0, 50), -1);
        Due.is("size 30", x.person(0, 30), 0);
        Due.is("size 49", x.person(1, 49), 1);
        for (int i = 2; i < 20; i++) {
            Due.is("person " + i, x.person(0, 40), i);
        }
        Due.is("the 21st", x.person(0, 40), -1);
        Due.is("people", x.has(4), 20);
        Due.is("without a house", new ThreeSizes().person(0, 40), -1);
    }

    private static void thoughts() {
        ThreeSizes x = Due.with(HOUSE);
        x.person(0, 40);
        x.person(1, 40);
        int[] first = {1000, 2000, 4000, 2000, 1000};
        int[] second = {0, 0, 0, 0, 10000};
        for (int d = -2; d <= 2; d++) {
            Due.is("foot(0, " + d + ")", x.foot(0, d), first[d + 2]);
            Due.is("foot(1, " + d + ")", x.foot(1, d), second[d + 2]);
        }
        Due.is("foot(0, 3)", x.foot(0, 3), -1);
        Due.is("foot(0, -3)", x.foot(0, -3), -1);
        Due.is("foot(2, 0)", x.foot(2, 0), -1);
        Due.is("foot(-1, 0)", x.foot(-1, 0), -1);
        Due.is("last(0, -1)", x.last(0, -1), 2000);
        Due.is("last(0, 0)", x.last(0, 0), 5000);
        Due.is("last(0, 1)", x.last(0, 1), 3000);
        Due.is("last(0, 2)", x.last(0, 2), -1);
        Due.is("last(0, -2)", x.last(0, -2), -1);
        Due.is("last(1, 0)", x.last(1, 0), -1);
        Due.is("last(-1, 0)", x.last(-1, 0), -1);
        x.send(0, 0, 4);
        x.back(0, 0);
        x.person(0, 40);
        Due.is("someone new is thought of as the sort says", x.foot(2, 0), 4000);
    }

    private static void who() {
        ThreeSizes x = Due.with(HOUSE);
        x.person(0, 40);
        x.person(1, 42);
        row(x, 0, new int[] {0, 40, 0, 0, -1, 0, -1, 0});
        row(x, 1, new int[] {1, 42, 0, 0, -1, 0, -1, 0});
        Due.is("who(0, 8)", x.who(0, 8), -1);
        Due.is("who(0, -1)", x.who(0, -1), -1);
        Due.is("who(2, 0)", x.who(2, 0), -1);
        Due.is("who(-1, 0)", x.who(-1, 0), -1);
        x.send(0, 0, 12);
        row(x, 0, new int[] {0, 40, 0, 0, 0, 12, -1, 0});
        x.back(0, 3);
        row(x, 0, new int[] {0, 40, 1, 1, -1, 0, -1, 0});
        x.send(0, 0, 4);
        x.back(0, 0);
        row(x, 0, new int[] {0, 40, 2, 1, -1, 0, -1, 0});
        x.send(0, 0, 4);
        x.back(0, 3);
        x.send(0, 0, 4);
        x.back(0, 3);
        Due.is("three whole, but one kept", x.who(0, 7), 0);
        x.person(0, 40);
        x.send(2, 0, 4);
        x.back(2, 3);
        x.send(2, 0, 4);
        x.back(2, 3);
        Due.is("two whole", x.who(2, 7), 0);
        x.send(2, 0, 4);
        Due.is("the third is out", x.who(2, 7), 0);
        x.back(2, 3);
        row(x, 2, new int[] {0, 40, 3, 3, -1, 0, -1, 1});
        x.draw(1);
        Due.is("a foot of the truth", x.who(1, 6), 4);
    }

    private static void row(ThreeSizes x, int person, int[] due) {
        for (int what = 0; what < due.length; what++) {
            Due.is("who(" + person + ", " + what + ")", x.who(person, what), due[what]);
        }
    }
}
