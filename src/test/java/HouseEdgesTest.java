/**
 * The document's sentences on the text of a house (Terms I; promises 4, 6, 7, 8) that name an edge,
 * each with both sides of it. The sentence stands above its test.
 */
public final class HouseEdgesTest {
    private static final String A = "last a price 1 runs 0 0 0;";
    private static final String S = "sort s off 0 0 0 0 0 wear 0 grow 0 leave 0;";

    public static void main(String[] args) {
        hundredStatements();
        whateverStandsThere();
        prices();
        chancesOfRuns();
        chancesOfFeet();
        eachOther();
        keeps();
        keepsWithout();
        faresWipesFees();
        stocks();
        asks();
        eightLasts();
        fourSorts();
        sixQuestions();
        theLastOneCounts();
        whatLacks();
        lettersOfNames();
        ownWords();
        unlikeNames();
        toldAhead();
        digits();
        blanks();
        wholeWords();
        endsTooSoon();
        firstAlongTheText();
        faultsLeaveAll();
        housesBeginAnew();
        counts();
        letters();
        faults();
        Due.rest("HouseEdgesTest");
    }

    private static ThreeSizes taken(String text, int statements) {
        ThreeSizes x = new ThreeSizes();
        Due.is("house() of '" + text + "'", Due.house(x, text), statements);
        Due.is("fault(0) of '" + text + "'", x.fault(0), 0);
        Due.is("fault(1) of '" + text + "'", x.fault(1), -1);
        return x;
    }

    /** The fault stands at the sign ^ of the text, which is taken out. */
    private static void refused(int fault, String marked) {
        int place = marked.indexOf('^');
        Due.houseFault(marked.replace("^", ""), fault, place);
    }

    /** "{ STATEMENT ; } (100 at most)" */
    private static void hundredStatements() {
        taken("", 0);
        taken("\n ", 0);
        taken("fee 1;", 1);
        taken("fee 1;".repeat(99), 99);
        taken("fee 1;".repeat(100), 100);
        taken("fee 1;".repeat(100) + " \n \n", 100);
        refused(5, "fee 1;".repeat(100) + "^fee 1;");
        refused(5, "fee 1;".repeat(100) + " \n ^fee 1;fee 1;");
        taken(A + S + "stock a 40 1;".repeat(98), 100);
        refused(5, A + S + "stock a 40 1;".repeat(98) + "^wipe 1;");
    }

    /** "5 .. a 101st (41st) STATEMENT (whatever stands there) .. at its first byte" */
    private static void whateverStandsThere() {
        String hundred = "fee 1;".repeat(100);
        for (String there : new String[] {"?", ";", "7", "12345", "abcdefg", "fe", "send", "\t", "\u00ff", "(", "A"}) {
            refused(5, hundred + "^" + there);
            refused(5, hundred + " ^" + there + " ");
            refused(1, "fee 1;".repeat(99) + "^" + there);
        }
    }

    /** "price N (a LAST, 0 .. 9999 ..)" */
    private static void prices() {
        for (int price : new int[] {0, 1, 9999}) {
            ThreeSizes x = taken("last a price " + price + " runs 0 0 0;" + S + "keeps 0 0 100 0 0;stock a 40 1;", 4);
            x.person(0, 40);
            x.send(0, 0, 4);
            x.back(0, 0);
            Due.is("price " + price, x.earned(), price);
        }
        refused(1, "last a price 1000^0 runs 0 0 0;");
        refused(1, "last a price 0000^1 runs 0 0 0;");
    }

    /** "chances of 100 that it runs a size small, true, a size large"; "2 .. one by which chances come above 100, at it" */
    private static void chancesOfRuns() {
        Due.runs(taken("last a price 1 runs 100 0 0;", 1), 0, 10000, 0, 0);
        Due.runs(taken("last a price 1 runs 0 100 0;", 1), 0, 0, 10000, 0);
        Due.runs(taken("last a price 1 runs 0 0 100;", 1), 0, 0, 0, 10000);
        Due.runs(taken("last a price 1 runs 33 33 34;", 1), 0, 3300, 3300, 3400);
        refused(2, "last a price 1 runs ^101 0 0;");
        refused(2, "last a price 1 runs 0 ^101 0;");
        refused(2, "last a price 1 runs 0 0 ^101;");
        refused(2, "last a price 1 runs 1 ^100 0;");
        refused(2, "last a price 1 runs 100 0 ^1;");
        refused(2, "last a price 1 runs 33 34 ^34;");
        refused(2, "last a price 1 runs 100 ^1 1;");
        refused(2, "last a price 1 runs ^9999 9999 9999;");
    }

    /** "chances of 100 that the foot is 2 sizes below, 1 below, as asked, 1 above, 2 above" */
    private static void chancesOfFeet() {
        for (int at = 0; at < 5; at++) {
            StringBuilder all = new StringBuilder();
            StringBuilder above = new StringBuilder();
            StringBuilder together = new StringBuilder(at == 0 ? "" : "1 ");
            int[] due = new int[5];
            due[at] = 10000;
            for (int i = 0; i < 5; i++) {
                all.append(i == at ? "100 " : "0 ");
                above.append(i == at ? "^101 " : "0 ");
                if (at > 0 && i > 0) {
                    together.append(i == at ? "^100 " : "0 ");
                }
            }
            ThreeSizes x = taken("sort s off " + all + "wear 0 grow 0 leave 0;", 1);
            x.person(0, 40);
            Due.feet(x, 0, due);
            refused(2, "sort s off " + above + "wear 0 grow 0 leave 0;");
            if (at > 0) {
                refused(2, "sort s off " + together + "wear 0 grow 0 leave 0;");
            }
        }
        ThreeSizes x = taken("sort s off 20 20 20 20 20 wear 0 grow 0 leave 0;", 1);
        x.person(0, 40);
        Due.feet(x, 0, 2000, 2000, 2000, 2000, 2000);
        refused(2, "sort s off 20 20 20 20 ^21 wear 0 grow 0 leave 0;");
        refused(2, "sort s off 20 20 20 ^41 0 wear 0 grow 0 leave 0;");
    }

    /** "each other 0 .. 100": wear, grow, leave */
    private static void eachOther() {
        taken("sort s off 0 0 0 0 0 wear 0 grow 0 leave 0;", 1);
        taken("sort s off 0 0 0 0 0 wear 100 grow 100 leave 100;", 1);
        refused(2, "sort s off 0 0 0 0 0 wear ^101 grow 100 leave 100;");
        refused(2, "sort s off 0 0 0 0 0 wear 100 grow ^101 leave 100;");
        refused(2, "sort s off 0 0 0 0 0 wear 100 grow 100 leave ^101;");
    }

    /** "keeps N N N N N (0 .. 100, by how far a pair is too small by 2, by 1, fits, is too large by 1, by 2 ..)" */
    private static void keeps() {
        taken("keeps 100 100 100 100 100;", 1);
        taken("keeps 0 0 0 0 0;", 1);
        refused(2, "keeps ^101 0 0 0 0;");
        refused(2, "keeps 0 ^101 0 0 0;");
        refused(2, "keeps 0 0 ^101 0 0;");
        refused(2, "keeps 0 0 0 ^101 0;");
        refused(2, "keeps 0 0 0 0 ^101;");
        refused(1, "keeps 0 0 0 0^;");
        refused(1, "keeps 0 0 0 0 0 ^0;");
    }

    /** "all 0 without": keeps */
    private static void keepsWithout() {
        ThreeSizes x = taken(A + "sort s off 20 20 20 20 20 wear 0 grow 0 leave 0;", 2);
        x.person(0, 40);
        for (int bits : new int[] {1, 2, 4, 8, 16, 7, 21, 28}) {
            Due.is("none is kept of " + bits, x.keeps(0, 0, bits, 3), 1000000000000L);
        }
    }

    /** "fare N, wipe N, fee N (0 .. 9999, 0 .. 9999, 0 .. 99; 0 without)" */
    private static void faresWipesFees() {
        for (int what = 5; what <= 7; what++) {
            String word = what == 5 ? "fare" : what == 6 ? "wipe" : "fee";
            int most = what == 7 ? 99 : 9999;
            Due.is(word + " without", taken(A, 1).has(what), 0);
            for (int number : new int[] {0, 1, most - 1, most}) {
                Due.is(word + " " + number, taken(word + " " + number + ";", 1).has(what), number);
            }
        }
        refused(2, "fee ^100;");
        refused(2, "fee ^9999;");
        refused(1, "fee 1000^0;");
        refused(1, "fare 1000^0;");
        refused(1, "wipe 1000^0;");
    }

    /** "stock NAME N N (a LAST, a SIZE 30 .. 49, how many pairs, 0 .. 99; 0 without)" */
    private static void stocks() {
        ThreeSizes x = taken(A + "last b price 1 runs 0 0 0;stock a 30 99;stock b 49 99;stock a 49 1;stock b 30 0;", 6);
        Due.is("a 30", x.stock(0, 30), 99);
        Due.is("a 49", x.stock(0, 49), 1);
        Due.is("b 30", x.stock(1, 30), 0);
        Due.is("b 49", x.stock(1, 49), 99);
        for (int size = 31; size < 49; size++) {
            Due.is("without", x.stock(0, size) + x.stock(1, size), 0);
        }
        refused(2, A + "stock a ^29 1;");
        refused(2, A + "stock a ^50 1;");
        refused(2, A + "stock a ^0 1;");
        refused(2, A + "stock a 30 ^100;");
        refused(2, A + "stock a 49 ^9999;");
    }

    /** "ask NAME N N N N N (a QUESTION; 0 .. 100 ..)" */
    private static void asks() {
        taken("ask q 0 0 0 0 0;ask r 100 100 100 100 100;", 2);
        refused(2, "ask q ^101 0 0 0 0;");
        refused(2, "ask q 0 ^101 0 0 0;");
        refused(2, "ask q 0 0 ^101 0 0;");
        refused(2, "ask q 0 0 0 ^101 0;");
        refused(2, "ask q 0 0 0 0 ^101;");
    }

    private static String many(String statement, int count) {
        StringBuilder text = new StringBuilder();
        for (int i = 0; i < count; i++) {
            text.append(statement.replace('#', (char) ('a' + i)));
        }
        return text.toString();
    }

    /** "8 LASTS"; "5 one too many of a kind .. at its first byte" */
    private static void eightLasts() {
        String last = "last # price 1 runs 0 0 0;";
        Due.is("eight", taken(many(last, 8), 8).has(0), 8);
        refused(5, many(last, 8) + "^last z price 1 runs 0 0 0;");
        refused(5, many(last, 8) + "fee 1; ^last a");
        refused(5, many(last, 8) + "^last");
        refused(5, many(last, 8) + "^last 1");
        refused(1, many(last, 8) + "^lasts");
    }

    /** "4 SORTS" */
    private static void fourSorts() {
        String sort = "sort # off 0 0 0 0 0 wear 0 grow 0 leave 0;";
        Due.is("four", taken(many(sort, 4), 4).has(1), 4);
        refused(5, many(sort, 4) + "^sort z off 0 0 0 0 0 wear 0 grow 0 leave 0;");
        refused(5, many(sort, 4) + "fee 1; ^sort a");
        refused(5, many(sort, 4) + "^sort");
    }

    /** "6 QUESTIONS" */
    private static void sixQuestions() {
        String ask = "ask # 0 0 0 0 0;";
        Due.is("six", taken(many(ask, 6), 6).has(2), 6);
        refused(5, many(ask, 6) + "^ask z 0 0 0 0 0;");
        refused(5, many(ask, 6) + "fee 1; ^ask a");
        refused(5, many(ask, 6) + "^ask");
    }

    /** "Of all but last, sort, ask the last one counts." */
    private static void theLastOneCounts() {
        ThreeSizes x = taken("fare 5;fare 6;fare 0;wipe 7;wipe 8;fee 9;fee 3;" + A + S
                + "stock a 40 9;stock a 41 8;stock a 40 0;keeps 1 2 3 4 5;keeps 0 0 7 0 0;", 14);
        Due.is("fare", x.has(5), 0);
        Due.is("wipe", x.has(6), 8);
        Due.is("fee", x.has(7), 3);
        Due.is("stock of 40", x.stock(0, 40), 0);
        Due.is("stock of 41", x.stock(0, 41), 8);
        x.person(0, 40);
        Due.is("fits", x.keeps(0, 0, 4, 0), 70000000000L);
        Due.is("too small by 2", x.keeps(0, 0, 1, -2), 0);
        Due.is("too small by 1", x.keeps(0, 0, 2, -1), 0);
        Due.is("too large by 1", x.keeps(0, 0, 8, 1), 0);
        Due.is("too large by 2", x.keeps(0, 0, 16, 2), 0);
        x = taken(A + "last b price 2 runs 0 0 0;" + S + "sort t off 0 0 0 0 0 wear 0 grow 0 leave 0;"
                + "ask q 0 0 0 0 0;ask r 0 0 0 0 0;", 6);
        Due.is("lasts", x.has(0), 2);
        Due.is("sorts", x.has(1), 2);
        Due.is("questions", x.has(2), 2);
    }

    /** "What chances of 100 lack is put to true, and to as asked." */
    private static void whatLacks() {
        Due.runs(taken("last a price 1 runs 0 0 0;", 1), 0, 0, 10000, 0);
        Due.runs(taken("last a price 1 runs 1 0 0;", 1), 0, 100, 9900, 0);
        Due.runs(taken("last a price 1 runs 0 1 99;", 1), 0, 0, 100, 9900);
        Due.runs(taken("last a price 1 runs 10 20 30;", 1), 0, 1000, 6000, 3000);
        Due.runs(taken("last a price 1 runs 50 0 49;", 1), 0, 5000, 100, 4900);
        ThreeSizes x = taken("sort s off 0 0 0 0 0 wear 0 grow 0 leave 0;sort t off 1 2 3 4 5 wear 0 grow 0 leave 0;"
                + "sort u off 25 25 0 25 24 wear 0 grow 0 leave 0;", 3);
        x.person(0, 40);
        x.person(1, 40);
        x.person(2, 40);
        Due.feet(x, 0, 0, 0, 10000, 0, 0);
        Due.feet(x, 1, 100, 200, 8800, 400, 500);
        Due.feet(x, 2, 2500, 2500, 100, 2500, 2400);
    }

    /** "NAMES: 1 to 6 letters"; "where a NAME is asked .. a 7th letter at itself" */
    private static void lettersOfNames() {
        for (String name : new String[] {"a", "z", "ab", "abcdef", "zzzzzz", "azazaz"}) {
            ThreeSizes x = taken("last " + name + " price 1 runs 0 0 0;", 1);
            for (int k = 0; k < 6; k++) {
                Due.is("letter " + k + " of " + name, x.letter(0, 0, k),
                        k < name.length() ? name.charAt(k) - 'a' + 1 : 0);
            }
        }
        refused(1, "last abcdef^g price 1 runs 0 0 0;");
        refused(1, "last abcdef^ghijklmnop price");
        refused(1, "last charge^s price 1 runs 0 0 0;");
        refused(1, "sort abcdef^g off");
        refused(1, "ask abcdef^g 0");
        refused(1, A + "stock aaaaaa^a 40 1;");
        refused(1, "last ^; price");
        refused(1, "last ^1 price");
        refused(1, "last ^A price");
        refused(1, "last a^A price");
        refused(1, "last a^_b price");
        refused(1, "last a^\u00e9 price");
    }

    /** "no OWN WORD"; "where a NAME is asked, an OWN WORD so [at its first byte]" */
    private static void ownWords() {
        for (String own : ("last, price, runs, sort, off, wear, grow, leave, keeps, fare, wipe, fee, stock, ask, send, "
                + "down, below, same, above, up, when, or, and, not, all, kind, tried, less, more, small, large, cost, "
                + "charge, min, max").split(", ")) {
            refused(1, "last ^" + own + " price 1 runs 0 0 0;");
            refused(1, "sort ^" + own + " off 0 0 0 0 0 wear 0 grow 0 leave 0;");
            refused(1, "ask ^" + own + " 0 0 0 0 0;");
            refused(1, A + "stock ^" + own + " 40 1;");
            if (own.length() < 6) {
                taken("last " + own + "q price 1 runs 0 0 0;", 1);
            }
            taken("last " + own.substring(0, own.length() - 1) + "q price 1 runs 0 0 0;", 1);
        }
    }

    /** "those of a HOUSE unlike ones"; "3 a NAME to be given that is there already .. at it" */
    private static void unlikeNames() {
        String q = "ask q 0 0 0 0 0;";
        taken(A + S + q + "last aa price 1 runs 0 0 0;ask qa 0 0 0 0 0;", 5);
        for (String name : new String[] {"a", "s", "q"}) {
            refused(3, A + S + q + "last ^" + name + " price 1 runs 0 0 0;");
            refused(3, A + S + q + "sort \n^" + name + " off 0 0 0 0 0 wear 0 grow 0 leave 0;");
            refused(3, A + S + q + "ask  ^" + name + " 0 0 0 0 0;");
        }
        refused(3, "last abcdef price 1 runs 0 0 0;last ^abcdef price");
        taken("last abcdef price 1 runs 0 0 0;last abcdeg price 1 runs 0 0 0;last bbcdef price 1 runs 0 0 0;", 3);
    }

    /** "told ahead of where they are asked"; "3 .. one that is none of what is asked .. at it" */
    private static void toldAhead() {
        taken(A + "stock a 40 1;", 2);
        refused(3, "stock ^a 40 1;" + A);
        refused(3, A + "stock ^b 40 1;last b price 1 runs 0 0 0;");
        refused(3, A + S + "stock ^s 40 1;");
        refused(3, A + "ask q 0 0 0 0 0;stock ^q 40 1;");
        refused(3, A + "stock ^aa 40 1;");
    }

    /** "N (1 to 4 digits)"; "a 5th digit at itself"; a number where none is asked is a fault at its first byte */
    private static void digits() {
        Due.is("one digit", taken("fare 7;", 1).has(5), 7);
        Due.is("four digits", taken("fare 0007;", 1).has(5), 7);
        Due.is("fee 0099", taken("fee 0099;", 1).has(7), 99);
        refused(1, "fare 0000^7;");
        refused(1, "fare 1234^56789;");
        refused(1, "fee 9999^9;");
        refused(2, "fee ^9999;");
        refused(1, "^12345");
        refused(1, "fare 1 ^12345;");
        refused(1, "fare ^-1;");
        refused(1, "fare 1^.5;");
    }

    /** "Blanks (10, 32) are where one likes (words and numbers side by side need one)." */
    private static void blanks() {
        taken("\nfee\n1\n;\n \nfare \n 2 ;wipe 3;", 3);
        taken(" last  a\nprice\n\n1 runs 0 \n0 0 ; ", 1);
        for (char other : new char[] {0, 9, 11, 12, 13, 31, 33, 127, 128, 160, 255}) {
            refused(1, "fee^" + other + "1;");
            refused(1, "^" + other + "fee 1;");
            refused(1, "fee 1;^" + other);
        }
        refused(1, "fee^1;");
        refused(1, "last a^1 price");
        refused(1, "last a price^1 runs");
        refused(1, "last a price 1^runs");
        refused(1, "fare 1^a;");
        refused(1, "fare 1 ^1;");
    }

    /** "1 the first byte with which no such text goes on (words and numbers whole, at their first byte ..)" */
    private static void wholeWords() {
        refused(1, "^fees 1;");
        refused(1, "^fe 1;");
        refused(1, "^fe");
        refused(1, "fee 1;^f");
        refused(1, "^abcdefghij 1;");
        refused(1, "^price 1;");
        refused(1, "^send up when all;");
        refused(1, "^a 1;");
        refused(1, "last a ^prices 1 runs 0 0 0;");
        refused(1, "last a price 1 ^run 0 0 0;");
        refused(1, "last a price 1 ^sort 0 0 0;");
        refused(1, "sort s ^of 0 0 0 0 0;");
        refused(1, "sort s off 0 0 0 0 0 ^grow 0;");
        refused(1, "sort s off 0 0 0 0 0 wear 0 ^leave 0;");
        refused(1, "sort s off 0 0 0 0 0 wear 0 grow 0 ^wear 0;");
        refused(1, "fee 1^,");
        refused(1, "fee 1;^;");
        refused(1, "^;");
        refused(1, "fee ^fee;");
        refused(1, "fee 1 ^fee 1;");
    }

    /** "at the text's length, if it ends too soon" */
    private static void endsTooSoon() {
        String[] texts = {"last a price 1 runs 0 0 0 ;", "sort s off 0 0 0 0 0 wear 0 grow 0 leave 0 ;",
            "keeps 0 0 0 0 0 ;", "fare 1 ;", "wipe 1 ;", "fee 1 ;", A + "stock a 40 1 ;", "ask q 0 0 0 0 0 ;"};
        for (String text : texts) {
            for (int at = text.lastIndexOf(';', text.length() - 2) + 2; at < text.length(); at++) {
                if (text.charAt(at) == ' ') {
                    refused(1, text.substring(0, at) + "^");
                    refused(1, text.substring(0, at) + " \n^");
                }
            }
        }
    }

    /** "FAULTS of both, the first along the text" */
    private static void firstAlongTheText() {
        refused(2, "fee ^100;last last ?");
        refused(1, "fee 1 ^?;fee 100;");
        refused(3, A + "last ^a price 1 runs 101 0 0;");
        refused(2, A + "last b price 1 runs ^101 0 0;last a");
        refused(3, "stock ^a 29 100;");
        refused(2, A + "stock a ^29 100;");
        refused(3, A + "last ^a1 price");
        refused(2, "fee ^100x;");
        refused(1, "last abcdef^g1;");
        refused(5, many("ask # 0 0 0 0 0;", 6) + "^ask a 101;");
        refused(1, "fee 1;".repeat(99) + "fee 1^?");
    }

    private static ThreeSizes lived() {
        ThreeSizes x = Due.with("last a price 9 runs 20 60 20;last b price 8 runs 0 0 0;"
                + "sort s off 10 20 40 20 10 wear 10 grow 0 leave 0;ask q 1 2 3 4 5;keeps 10 40 80 40 10;"
                + "fare 3;wipe 2;fee 1;stock a 39 3;stock a 40 3;stock a 41 3;stock b 40 3;");
        Due.rule(x, 0, "send up when all;");
        x.person(0, 40);
        x.person(0, 41);
        x.send(0, 0, 14);
        x.back(0, 0);
        x.send(1, 1, 2);
        x.draw(4);
        x.days(2);
        return x;
    }

    /** "house(): The tape (it goes) is THE HOUSE .. NONE with a FAULT (all stays)." */
    private static void faultsLeaveAll() {
        for (String text : new String[] {"?", "fee 2;fare 2;wipe 2;keeps 1 1 1 1 1;last z price 1 runs 0 0 0;"
                + "sort y off 0 0 0 0 0 wear 0 grow 0 leave 0;ask x 0 0 0 0 0;stock z 40 9;^", "fee 100;", "last a",
                "stock a 40 1;", "fee 1;".repeat(101)}) {
            ThreeSizes x = lived();
            String seen = Due.seen(x);
            Due.is("a fault", Due.house(x, text), -1);
            Due.is("the tape went", x.end(1), false);
            Due.same("all stays", Due.seen(x), seen);
            Due.is("so does the chance to be kept", x.keeps(0, 0, 4, 0) > 0, true);
            Due.is("and what comes back", x.days(5), 7);
            Due.is("39 comes", x.stock(0, 39), 3);
        }
    }

    /** "Without one there are no PEOPLE, no THE TRUTH; RULES stay; it is day 0, nothing earned." */
    private static void housesBeginAnew() {
        ThreeSizes x = lived();
        for (int times = 0; times < 3; times++) {
            Due.is("an empty house", x.house(), 0);
            for (int what = 0; what <= 10; what++) {
                Due.is("has(" + what + ") of an empty one", x.has(what), what == 3 ? 1 : 0);
            }
            Due.is("earned", x.earned(), 0);
            Due.is("no such person", x.who(0, 0), -1);
            Due.is("no such last", x.truth(0), -1);
        }
        x = lived();
        String small = A + S + "stock a 41 1;";
        for (int times = 0; times < 3; times++) {
            Due.is("a house", Due.house(x, small), 3);
            int[] due = {1, 1, 0, 1, 0, 0, 0, 0, 0, 0, 0};
            for (int what = 0; what <= 10; what++) {
                Due.is("has(" + what + ")", x.has(what), due[what]);
            }
            Due.is("no truth", x.truth(0), -1);
            Due.is("nothing earned", x.earned(), 0);
            Due.is("no stock of the other", x.stock(0, 40) + x.stock(0, 39), 0);
            Due.is("its own stock", x.stock(0, 41), 1);
            Due.runs(x, 0, 0, 10000, 0);
            Due.is("someone", x.person(0, 40), 0);
            Due.is("who kept none", x.who(0, 2) + x.who(0, 3) + x.who(0, 5) + x.who(0, 7), 0);
            Due.is("keeps nothing", x.keeps(0, 0, 4, 0), 0);
            Due.is("the rule stays", x.box(0, 0, 0), 16);
            Due.is("whole", x.send(0, 0, 8) == 1 && x.back(0, 3), true);
            Due.is("nothing earned by none", x.earned(), 0);
            x.draw(1);
            Due.is("a week", x.days(7), 7);
            Due.is("its own comes, not those of the houses ahead", x.stock(0, 41), 1);
            Due.is("nor of 39", x.stock(0, 39) + x.stock(0, 40), 0);
            Due.is("none is on its way", x.has(10), 0);
            x.send(0, 0, 8);
            x.back(0, 3);
            Due.is("one is", x.has(10), 1);
            Due.house(x, "last z price 1 runs 0 0 0;ask y 1 1 1 1 1;fare 9;wipe 9;fee 9;keeps 9 9 9 9 9;stock z 40 9;?");
        }
    }

    /** "has(what): How many there are: 0 .. 10. NONE for others." */
    private static void counts() {
        ThreeSizes x = lived();
        int[] due = {2, 1, 1, 1, 2, 3, 2, 1, 1, 2, 2};
        for (int what = 0; what <= 10; what++) {
            Due.is("has(" + what + ")", x.has(what), due[what]);
        }
        for (int what : new int[] {-1, -2, 11, 12, 100, Integer.MIN_VALUE, Integer.MAX_VALUE}) {
            Due.is("has(" + what + ")", x.has(what), -1);
        }
    }

    /** "Letter k (0 .. 5) of the NAME of a LAST (kind 0), SORT (1), QUESTION (2): 1 .. 26; 0 behind it; NONE when there is none such." */
    private static void letters() {
        ThreeSizes x = taken("last az price 1 runs 0 0 0;sort abcdef off 0 0 0 0 0 wear 0 grow 0 leave 0;"
                + "ask z 0 0 0 0 0;", 3);
        int[][] due = {{1, 26, 0, 0, 0, 0}, {1, 2, 3, 4, 5, 6}, {26, 0, 0, 0, 0, 0}};
        for (int kind = 0; kind < 3; kind++) {
            for (int k = 0; k < 6; k++) {
                Due.is("letter(" + kind + ", 0, " + k + ")", x.letter(kind, 0, k), due[kind][k]);
            }
            for (int none : new int[] {-1, 6, Integer.MIN_VALUE, Integer.MAX_VALUE}) {
                Due.is("letter(" + kind + ", 0, " + none + ")", x.letter(kind, 0, none), -1);
            }
            for (int none : new int[] {-1, 1, 2, Integer.MIN_VALUE, Integer.MAX_VALUE}) {
                Due.is("letter(" + kind + ", " + none + ", 0)", x.letter(kind, none, 0), -1);
            }
        }
        for (int none : new int[] {-1, 3, Integer.MIN_VALUE, Integer.MAX_VALUE}) {
            Due.is("letter(" + none + ", 0, 0)", x.letter(none, 0, 0), -1);
        }
    }

    /** "Of the latest house() or rule() that was not -2: its FAULT (0; 0 without, and ahead of any), its place (1; NONE without). NONE for another what." */
    private static void faults() {
        ThreeSizes x = new ThreeSizes();
        fault(x, "ahead of any", 0, -1);
        Due.is("on() of nothing", x.on(), false);
        fault(x, "on() tells none", 0, -1);
        Due.rule(x, 3, "?");
        fault(x, "-2 tells none", 0, -1);
        Due.house(x, "  fee 100;");
        fault(x, "a house's", 2, 6);
        Due.rule(x, -1, "send up when all;");
        Due.rule(x, 3, "");
        fault(x, "-2 leaves it", 2, 6);
        Due.tape(x, "?");
        x.on();
        x.image();
        fault(x, "so do others", 2, 6);
        Due.rule(x, 1, "send ?");
        fault(x, "a rule's", 1, 5);
        Due.rule(x, 1, "send up when all;");
        fault(x, "a rule without", 0, -1);
        Due.house(x, "?");
        fault(x, "at 0", 1, 0);
        Due.house(x, "");
        fault(x, "a house without", 0, -1);
        for (int none : new int[] {-1, 2, 3, Integer.MIN_VALUE, Integer.MAX_VALUE}) {
            Due.is("fault(" + none + ")", x.fault(none), -1);
        }
    }

    private static void fault(ThreeSizes x, String what, int fault, int place) {
        Due.is(what + ": fault(0)", x.fault(0), fault);
        Due.is(what + ": fault(1)", x.fault(1), place);
    }
}
