/** Promises 4 (house), 6 (fault), 7 (has), 8 (letter). */
public final class HouseTextTest {
    private static final String LAST_A = "last a price 1 runs 0 0 0;";
    private static final String SORT_S = "sort s off 0 0 0 0 0 wear 0 grow 0 leave 0;";

    public static void main(String[] args) {
        plainTexts();
        theLastOneCounts();
        chancesThatLack();
        names();
        tooMany();
        wrongWords();
        wrongNumbers();
        wrongNames();
        blanks();
        faultKeepsAll();
        newHouseBeginsAnew();
        faultAnswers();
        Due.rest("HouseTextTest");
    }

    private static void statements(String text, int count) {
        Due.is("house() of '" + text + "'", Due.house(new ThreeSizes(), text), count);
    }

    private static void plainTexts() {
        statements("", 0);
        statements(" \n ", 0);
        statements("fee 1;", 1);
        statements("fee 1;fare 2;wipe 3;keeps 0 0 0 0 0;", 4);
        statements(LAST_A + SORT_S + "stock a 30 0;stock a 49 99;ask q 0 100 0 100 0;", 5);
        ThreeSizes x = Due.with(LAST_A + SORT_S + "ask q 0 0 0 0 0;fare 9999;wipe 9998;fee 99;");
        int[] due = {1, 1, 1, 0, 0, 9999, 9998, 99, 0, 0, 0};
        for (int what = 0; what < due.length; what++) {
            Due.is("has(" + what + ")", x.has(what), due[what]);
        }
        Due.is("has(-1)", x.has(-1), -1);
        Due.is("has(11)", x.has(11), -1);
        Due.is("has(MAX)", x.has(Integer.MAX_VALUE), -1);
    }

    private static void theLastOneCounts() {
        ThreeSizes x = Due.with("fee 5;fare 6;wipe 7;fee 1;fare 2;wipe 0003;" + LAST_A
                + "stock a 40 3;stock a 41 9;stock a 40 1;");
        Due.is("fee", x.has(7), 1);
        Due.is("fare", x.has(5), 2);
        Due.is("wipe", x.has(6), 3);
        Due.is("stock told twice", x.stock(0, 40), 1);
        Due.is("stock told once", x.stock(0, 41), 9);
        Due.is("stock not told", x.stock(0, 42), 0);
        x = Due.with(LAST_A + SORT_S + "keeps 100 100 100 100 100;keeps 0 0 60 0 0;");
        x.person(0, 40);
        Due.is("the last keeps", x.keeps(0, 0, 4, 0), 600000000000L);
        x = Due.with(LAST_A + SORT_S);
        x.person(0, 40);
        Due.is("no keeps", x.keeps(0, 0, 4, 0), 0);
    }

    private static void chancesThatLack() {
        ThreeSizes x = Due.with("last a price 1 runs 10 20 30;last b price 1 runs 100 0 0;"
                + "last c price 1 runs 0 0 0;sort s off 10 0 5 0 20 wear 0 grow 0 leave 0;");
        Due.is("small", x.last(0, -1), 1000);
        Due.is("true", x.last(0, 0), 6000);
        Due.is("large", x.last(0, 1), 3000);
        Due.is("small of b", x.last(1, -1), 10000);
        Due.is("true of b", x.last(1, 0), 0);
        Due.is("true of c", x.last(2, 0), 10000);
        x.person(0, 40);
        int[] due = {1000, 0, 7000, 0, 2000};
        for (int d = -2; d <= 2; d++) {
            Due.is("foot " + d, x.foot(0, d), due[d + 2]);
        }
    }

    private static void names() {
        ThreeSizes x = Due.with("last azbyxc price 1 runs 0 0 0;last m price 1 runs 0 0 0;"
                + "sort fees off 0 0 0 0 0 wear 0 grow 0 leave 0;ask lasta 0 0 0 0 0;");
        int[] due = {1, 26, 2, 25, 24, 3};
        for (int k = 0; k < 6; k++) {
            Due.is("letter(0, 0, " + k + ")", x.letter(0, 0, k), due[k]);
            Due.is("letter(0, 1, " + k + ")", x.letter(0, 1, k), k == 0 ? 13 : 0);
        }
        Due.is("of a sort", x.letter(1, 0, 3), 19);
        Due.is("of a sort, behind", x.letter(1, 0, 4), 0);
        Due.is("of a question", x.letter(2, 0, 4), 1);
        Due.is("letter(0, 0, 6)", x.letter(0, 0, 6), -1);
        Due.is("letter(0, 0, -1)", x.letter(0, 0, -1), -1);
        Due.is("letter(0, 2, 0)", x.letter(0, 2, 0), -1);
        Due.is("letter(0, -1, 0)", x.letter(0, -1, 0), -1);
        Due.is("letter(1, 1, 0)", x.letter(1, 1, 0), -1);
        Due.is("letter(2, 1, 0)", x.letter(2, 1, 0), -1);
        Due.is("letter(3, 0, 0)", x.letter(3, 0, 0), -1);
        Due.is("letter(-1, 0, 0)", x.letter(-1, 0, 0), -1);
    }

    private static String times(String text, int count) {
        StringBuilder all = new StringBuilder();
        for (int i = 0; i < count; i++) {
            all.append(text.replace('#', (char) ('a' + i)));
        }
        return all.toString();
    }

    private static void tooMany() {
        String last = "last # price 1 runs 0 0 0;";
        String sort = "sort # off 0 0 0 0 0 wear 0 grow 0 leave 0;";
        String ask = "ask # 0 0 0 0 0;";
        statements(times(last, 8), 8);
        Due.houseFault(times(last, 8) + " last", 5, 8 * last.length() + 1);
        statements(times(sort, 4), 4);
        Due.houseFault(times(sort, 5), 5, 4 * sort.length());
        statements(times(ask, 6), 6);
        Due.houseFault(times(ask, 6) + "ask a", 5, 6 * ask.length());
        statements(times("fee 1;", 100), 100);
        statements(times("fee 1;", 100) + " \n", 100);
        Due.houseFault(times("fee 1;", 101), 5, 600);
        Due.houseFault(times("fee 1;", 100) + " ?", 5, 601);
        Due.houseFault(times("fee 1;", 99) + " ?", 1, 595);
    }

    private static void wrongWords() {
        Due.houseFault(";", 1, 0);
        Due.houseFault("fee 1;;", 1, 6);
        Due.houseFault("fe", 1, 0);
        Due.houseFault("  fees 1;", 1, 2);
        Due.houseFault("fee", 1, 3);
        Due.houseFault("fee ", 1, 4);
        Due.houseFault("fee 1", 1, 5);
        Due.houseFault("fee 1 \n", 1, 7);
        Due.houseFault("fee 1 2;", 1, 6);
        Due.houseFault("fee x;", 1, 4);
        Due.houseFault("Fee 1;", 1, 0);
        Due.houseFault("price 1;", 1, 0);
        Due.houseFault("send up when all;", 1, 0);
        Due.houseFault("5;", 1, 0);
        Due.houseFault("\u00e9", 1, 0);
        Due.houseFault("last a prices 1 runs 0 0 0;", 1, 7);
        Due.houseFault("last a price 1 run 0 0 0;", 1, 15);
        Due.houseFault("last a price 1 runs 0 0;", 1, 23);
        Due.houseFault("last a price 1 runs 0 0 0 0;", 1, 26);
        Due.houseFault("sort s of 0", 1, 7);
        Due.houseFault("sort s off 0 0 0 0 0 grow", 1, 21);
        Due.houseFault("sort s off 0 0 0 0 0 wear 0 leave", 1, 28);
        Due.houseFault("sort s off 0 0 0 0 0 wear 0 grow 0 wear", 1, 35);
        Due.houseFault("keeps 1 2 3 4;", 1, 13);
        Due.houseFault(LAST_A + "stock a 40;", 1, LAST_A.length() + 10);
        Due.houseFault("ask q 1 2 3 4;", 1, 13);
    }

    private static void wrongNumbers() {
        Due.houseFault("fee 100;", 2, 4);
        Due.houseFault("fee 9999;", 2, 4);
        Due.houseFault("fee 00001;", 1, 8);
        Due.houseFault("fare 123456;", 1, 9);
        Due.houseFault("wipe 12345", 1, 9);
        Due.houseFault("fee 1 12345;", 1, 6);
        Due.houseFault("last 12345", 1, 5);
        statements("fee 0099;", 1);
        Due.houseFault("last a price 1 runs 101 0 0;", 2, 20);
        Due.houseFault("last a price 1 runs 60 40 1;", 2, 26);
        Due.houseFault("sort s off 20 20 20 20 21 wear", 2, 23);
        Due.houseFault("sort s off 20 81 ?", 2, 14);
        Due.houseFault("sort s off 0 0 0 0 0 wear 0 grow 101", 2, 33);
        Due.houseFault("sort s off 0 0 0 0 0 wear 0 grow 0 leave 101", 2, 41);
        Due.houseFault("keeps 0 0 0 0 101;", 2, 14);
        Due.houseFault("ask q 0 0 0 0 101;", 2, 14);
        Due.houseFault(LAST_A + "stock a 29 1;", 2, LAST_A.length() + 8);
        Due.houseFault(LAST_A + "stock a 50 1;", 2, LAST_A.length() + 8);
        Due.houseFault(LAST_A + "stock a 49 100;", 2, LAST_A.length() + 11);
    }

    private static void wrongNames() {
        for (String own : PlainModel.OWN) {
            Due.houseFault("last " + own + " price 1 runs 0 0 0;", 1, 5);
        }
        Due.houseFault("last abcdefgh", 1, 11);
        Due.houseFault("sort abcdefg off", 1, 11);
        Due.houseFault("ask abcdefg", 1, 10);
        Due.houseFault(LAST_A + "stock abcdefg 40 1;", 1, LAST_A.length() + 12);
        Due.houseFault("last", 1, 4);
        Due.houseFault("last ;", 1, 5);
        Due.houseFault(LAST_A + "last a", 3, LAST_A.length() + 5);
        Due.houseFault(LAST_A + "sort a", 3, LAST_A.length() + 5);
        Due.houseFault(LAST_A + "ask a", 3, LAST_A.length() + 4);
        Due.houseFault(SORT_S + "last s", 3, SORT_S.length() + 5);
        Due.houseFault(SORT_S + "sort s", 3, SORT_S.length() + 5);
        Due.houseFault("ask q 0 0 0 0 0;ask q", 3, 20);
        Due.houseFault("ask q 0 0 0 0 0;last q", 3, 21);
        Due.houseFault("stock a 40 1;" + LAST_A, 3, 6);
        Due.houseFault(SORT_S + "stock s 40 1;", 3, SORT_S.length() + 6);
        Due.houseFault("ask q 0 0 0 0 0;stock q 40 1;", 3, 22);
        statements(LAST_A + "last ab price 1 runs 0 0 0;last aa price 1 runs 0 0 0;last b price 1 runs 0 0 0;", 4);
    }

    private static void blanks() {
        statements("fee\n1\n;\n", 1);
        statements("  fee  1  ;fee 1 ;", 2);
        Due.houseFault("fee\t1;", 1, 3);
        Due.houseFault("fee\r1;", 1, 3);
        Due.houseFault("fee1;", 1, 3);
        Due.houseFault("fee100;", 1, 3);
        Due.houseFault("fee 1x;", 1, 5);
        Due.houseFault("last a1 price", 1, 6);
        Due.houseFault("last a price1 runs", 1, 12);
        Due.houseFault("last a price 1runs 0 0 0;", 1, 14);
        Due.houseFault("sort s off 0 0 0 0 0wear 0", 1, 20);
        Due.houseFault("f ee 1;", 1, 0);
        Due.houseFault("fee 1 0;", 1, 6);
    }

    private static void faultKeepsAll() {
        ThreeSizes x = Due.with(LAST_A + SORT_S + "fee 9;stock a 40 2;keeps 0 0 50 0 0;");
        x.person(0, 40);
        x.send(0, 0, 4);
        x.draw(1);
        x.days(3);
        Due.is("a house with a fault", Due.house(x, "fee 1;last b price 5 runs 0 0 0;?"), -1);
        Due.is("fault", x.fault(0), 1);
        Due.is("place", x.fault(1), 32);
        Due.is("lasts", x.has(0), 1);
        Due.is("name", x.letter(0, 0, 0), 1);
        Due.is("fee", x.has(7), 9);
        Due.is("people", x.has(4), 1);
        Due.is("boxes", x.has(8), 1);
        Due.is("day", x.has(9), 3);
        Due.is("stock", x.stock(0, 40), 1);
        Due.is("truth", x.truth(0), 1);
        Due.is("the tape went", x.feed(0, 0, 0, 0, 0), 20);
    }

    private static void newHouseBeginsAnew() {
        ThreeSizes x = Due.with(LAST_A + SORT_S + "fee 9;stock a 40 2;keeps 0 0 50 0 0;fare 3;");
        Due.rule(x, 2, "send up when all;");
        x.person(0, 40);
        x.person(0, 40);
        x.send(0, 0, 4);
        x.back(0, 3);
        x.send(1, 0, 4);
        x.draw(1);
        x.days(3);
        Due.is("on the way", x.has(10), 1);
        Due.is("earned", x.earned(), 3);
        Due.is("a new house", Due.house(x, LAST_A + SORT_S + "stock a 41 1;"), 3);
        int[] due = {1, 1, 0, 1, 0, 0, 0, 0, 0, 0, 0};
        for (int what = 0; what < due.length; what++) {
            Due.is("new house has(" + what + ")", x.has(what), due[what]);
        }
        Due.is("earned", x.earned(), 0);
        Due.is("truth", x.truth(0), -1);
        Due.is("old stock", x.stock(0, 40), 0);
        Due.is("new stock", x.stock(0, 41), 1);
        Due.is("the rule stays", x.box(2, x.person(0, 40), 0), 16);
        Due.is("no truth of the person", x.who(0, 6), -1);
        Due.is("none came back", x.who(0, 2), 0);
        x.days(7);
        Due.is("nothing of the old house comes", x.stock(0, 40), 0);
        x.days(1);
        x.draw(2);
        Due.is("a third one", Due.house(x, LAST_A), 1);
        for (int what = 1; what <= 10; what++) {
            Due.is("third house has(" + what + ")", x.has(what), what == 3 ? 1 : 0);
        }
        Due.is("its truth", x.truth(0), -1);
        Due.is("its stock", x.stock(0, 40) + x.stock(0, 41), 0);
        x.days(7);
        Due.is("nothing comes to it", x.stock(0, 40), 0);
        Due.house(x, LAST_A + SORT_S);
        x.person(0, 40);
        Due.is("nothing pleases", x.keeps(0, 0, 4, 0), 0);
        Due.is("an empty house", x.house(), 0);
        Due.is("it has no lasts", x.has(0), 0);
        Due.is("it has no people", x.has(4), 0);
    }

    private static void faultAnswers() {
        ThreeSizes x = new ThreeSizes();
        Due.is("ahead of any", x.fault(0), 0);
        Due.is("ahead of any, its place", x.fault(1), -1);
        Due.house(x, "fee 100;");
        Due.is("fault(0)", x.fault(0), 2);
        Due.is("fault(1)", x.fault(1), 4);
        Due.is("fault(2)", x.fault(2), -1);
        Due.is("fault(-1)", x.fault(-1), -1);
        Due.is("rule(3)", Due.rule(x, 3, "?"), -2);
        Due.is("it told no fault", x.fault(0), 2);
        Due.is("nor a place", x.fault(1), 4);
        Due.rule(x, 0, "  ?");
        Due.is("fault of a rule", x.fault(0), 1);
        Due.is("place in a rule", x.fault(1), 2);
        Due.house(x, "fee 1;");
        Due.is("without a fault", x.fault(0), 0);
        Due.is("without a place", x.fault(1), -1);
        Due.house(x, "fee 100;");
        Due.rule(x, 0, "");
        Due.is("a rule without", x.fault(0), 0);
        Due.is("a rule without a place", x.fault(1), -1);
    }
}
