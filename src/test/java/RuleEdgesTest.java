/**
 * The document's sentences on the text of a rule (Terms I and III; promises 5, 18) that name an edge,
 * each with both sides of it. The sentence stands above its test.
 */
public final class RuleEdgesTest {
    private static final String HOUSE = "last a price 250 runs 30 50 20;last b price 0 runs 0 100 0;"
            + "sort s off 10 15 40 20 15 wear 0 grow 0 leave 0;sort t off 0 0 100 0 0 wear 0 grow 0 leave 0;"
            + "keeps 10 20 50 20 10;fee 6;stock a 40 99;stock b 40 99;";

    public static void main(String[] args) {
        numbersOfRules();
        threeRules();
        fortyStatements();
        oneToThreeSizes();
        unlikeSizes();
        wordsOfSizes();
        digits();
        sums();
        products();
        quotients();
        boundAbove();
        boundBelow();
        fromTheLeftOn();
        signs();
        orAndNot();
        minMax();
        sixOpen();
        untilItsFactEnds();
        sevenOpenElsewhere();
        wholeWords();
        blanks();
        endsTooSoon();
        firstAlongTheText();
        kinds();
        tried();
        lessAndMore();
        smallAndLarge();
        costAndCharge();
        firstThatHolds();
        outsideLeftOut();
        noneSuch();
        faultsLeaveTheRule();
        inItsPlace();
        Due.rest("RuleEdgesTest");
    }

    private static void refused(int fault, String marked) {
        int place = marked.indexOf('^');
        Due.ruleFault(marked.replace("^", ""), fault, place);
    }

    private static void taken(String text, int statements) {
        ThreeSizes x = new ThreeSizes();
        Due.is("rule(0) of '" + text + "'", Due.rule(x, 0, text), statements);
        Due.is("fault(0) of '" + text + "'", x.fault(0), 0);
    }

    private static void holds(String test) {
        Due.is(test, boxOf("send up when " + test + ";send down when all;"), 16);
    }

    private static void fails(String test) {
        Due.is(test, boxOf("send up when " + test + ";send down when all;"), 1);
    }

    private static int boxOf(String text) {
        ThreeSizes x = Due.with(HOUSE);
        x.person(0, 40);
        Due.is("rule '" + text + "' is one", Due.rule(x, 0, text) >= 0, true);
        return x.box(0, 0, 0);
    }

    /** "numbers 0 .. 2"; "rule(k): .. -2 (no FAULT is told) when there is no such number" */
    private static void numbersOfRules() {
        ThreeSizes x = new ThreeSizes();
        for (int k : new int[] {-1, 3, 4, Integer.MIN_VALUE, Integer.MAX_VALUE}) {
            Due.is("rule(" + k + ")", Due.rule(x, k, "send up when all;"), -2);
            Due.is("none came", x.has(3), 0);
            Due.is("rule(" + k + ") with a fault", Due.rule(x, k, "?"), -2);
            Due.is("no fault is told", x.fault(0), 0);
            Due.is("no place is told", x.fault(1), -1);
        }
        for (int k = 0; k < 3; k++) {
            Due.is("rule(" + k + ")", Due.rule(x, k, "send up when all;"), 1);
            Due.is("rules", x.has(3), k + 1);
        }
    }

    /** "A RULE (3 at most ..)": one that is there already is no fourth */
    private static void threeRules() {
        ThreeSizes x = Due.with(HOUSE);
        x.person(0, 40);
        Due.rule(x, 2, "send up when all;");
        Due.is("rule 2 alone", x.has(3), 1);
        Due.is("no rule 0", x.box(0, 0, 0), -1);
        Due.is("no rule 1", x.box(1, 0, 0), -1);
        Due.is("rule 2", x.box(2, 0, 0), 16);
        Due.rule(x, 0, "send down when all;");
        Due.rule(x, 1, "");
        Due.rule(x, 1, "send below when all;");
        Due.is("three", x.has(3), 3);
        Due.is("rule 0", x.box(0, 0, 0), 1);
        Due.is("rule 1", x.box(1, 0, 0), 2);
        Due.is("rule 2 stays", x.box(2, 0, 0), 16);
    }

    /** "{ STATEMENT ; } (40 at most)"; "a 101st (41st) STATEMENT (whatever stands there)" */
    private static void fortyStatements() {
        String one = "send up when all;";
        taken("", 0);
        taken(" \n", 0);
        taken(one, 1);
        taken(one.repeat(39), 39);
        taken(one.repeat(40), 40);
        taken(one.repeat(40) + "\n ", 40);
        refused(5, one.repeat(40) + "^" + one);
        for (String there : new String[] {"?", ";", "7", "12345", "fee", "sen", "\u00ff", "("}) {
            refused(5, one.repeat(40) + "^" + there);
            refused(5, one.repeat(40) + "  ^" + there);
            refused(1, one.repeat(39) + "^" + there);
        }
    }

    /** "send SIZES when TEST, SIZES being 1 to 3"; "5 .. a 4th SIZE in a send (also one told already), at its first byte" */
    private static void oneToThreeSizes() {
        refused(1, "send ^when all;");
        taken("send up when all;", 1);
        taken("send up down when all;", 1);
        taken("send up down same when all;", 1);
        refused(5, "send up down same ^above when all;");
        refused(5, "send up down same ^up when all;");
        refused(5, "send up down same ^same when all;");
        refused(5, "send up down same ^above");
        refused(1, "send up down same ^abov");
        refused(1, "send up down same^;");
    }

    /** "unlike ones"; "3 .. a SIZE told twice in one send, at it" */
    private static void unlikeSizes() {
        for (String word : new String[] {"down", "below", "same", "above", "up"}) {
            refused(3, "send " + word + " ^" + word + " when all;");
            String other = word.equals("same") ? "up" : "same";
            refused(3, "send " + other + " " + word + " \n^" + word + " when all;");
            refused(3, "send " + word + " " + other + " ^" + word + " when all;");
            taken("send " + word + " when all;send " + word + " when all;", 2);
        }
    }

    /** "down, below, same, above, up (2 sizes below what is asked, 1 below, that, 1 above, 2 above)" */
    private static void wordsOfSizes() {
        Due.is("down", boxOf("send down when all;"), 1);
        Due.is("below", boxOf("send below when all;"), 2);
        Due.is("same", boxOf("send same when all;"), 4);
        Due.is("above", boxOf("send above when all;"), 8);
        Due.is("up", boxOf("send up when all;"), 16);
        Due.is("two", boxOf("send up below when all;"), 18);
        Due.is("three", boxOf("send above down same when all;"), 13);
    }

    /** "N (1 to 4 digits)"; "a 5th digit at itself" */
    private static void digits() {
        holds("9999 = 9998 + 1");
        holds("0000 = 0");
        holds("0012 = 12");
        refused(1, "send up when 1000^0 = 1;");
        refused(1, "send up when 0000^1 = 1;");
        refused(1, "send up when 1 = 1234^567;");
        refused(1, "send up when 1 ^12345 = 1;");
    }

    /** "SUM: PRODUCT { + or - PRODUCT }" */
    private static void sums() {
        holds("1 + 2 = 3");
        holds("1 - 2 < 0");
        holds("10 - 3 - 2 = 5");
        holds("10 - 3 + 2 = 9");
        holds("2 + 3 * 4 = 14");
        holds("20 - 2 * 3 - 4 / 2 = 12");
        refused(1, "send up when ^- 1 < 0;");
        refused(1, "send up when ^+ 1 > 0;");
        refused(1, "send up when 1 + ^+ 1 > 0;");
        refused(1, "send up when 1 +^;");
    }

    /** "PRODUCT: PART { * or / PART }" */
    private static void products() {
        holds("2 * 3 * 4 = 24");
        holds("7 / 2 * 2 = 6");
        holds("2 * 7 / 2 = 7");
        holds("100 / 10 / 2 = 5");
        holds("(0 - 3) * (0 - 4) = 12");
        refused(1, "send up when 1 * ^* 1 > 0;");
        refused(1, "send up when 1 /^;");
    }

    /** "/ gives the greatest whole number not above, by 0 it gives 0" */
    private static void quotients() {
        holds("6 / 3 = 2");
        holds("7 / 3 = 2");
        holds("8 / 3 = 2");
        holds("1 / 9999 = 0");
        holds("(0 - 6) / 3 = 0 - 2");
        holds("(0 - 7) / 3 = 0 - 3");
        holds("(0 - 8) / 3 = 0 - 3");
        holds("(0 - 1) / 9999 = 0 - 1");
        holds("6 / (0 - 3) = 0 - 2");
        holds("7 / (0 - 3) = 0 - 3");
        holds("(0 - 7) / (0 - 3) = 2");
        holds("(0 - 6) / (0 - 3) = 2");
        holds("0 / 5 = 0");
        holds("5 / 0 = 0");
        holds("0 / 0 = 0");
        holds("(0 - 5) / 0 = 0");
        holds("5 / (3 - 3) = 0");
        holds("1 + 5 / 0 * 7 = 1");
    }

    /** "each sum, difference, product above 10 to the 6 is that" */
    private static void boundAbove() {
        holds("999 * 1001 = 1000 * 1000 - 1");
        holds("999 * 1001 < 1000 * 1000");
        holds("1000 * 1000 - 1 < 1000 * 1000");
        holds("999 * 1001 + 1 = 1000 * 1000");
        holds("1000 * 1000 + 1 = 1000 * 1000");
        holds("999 * 1001 + 2 - 1 = 999 * 1001");
        holds("1001 * 1000 = 1000 * 1000");
        holds("9999 * 9999 = 1000 * 1000");
        holds("(1000 * 1000) * (1000 * 1000) = 1000 * 1000");
        holds("1000 * 1000 - (0 - 1) = 1000 * 1000");
        holds("0 - (0 - 1000) * 1001 = 1000 * 1000");
        fails("1000 * 1000 + 1 > 1000 * 1000");
    }

    /** "below -10 to the 6 likewise" */
    private static void boundBelow() {
        holds("(0 - 999) * 1001 = 1 - 1000 * 1000");
        holds("(0 - 999) * 1001 > 0 - 1000 * 1000");
        holds("(0 - 999) * 1001 - 1 = 0 - 1000 * 1000");
        holds("0 - 1000 * 1000 - 1 = 0 - 1000 * 1000");
        holds("0 - 1000 * 1000 + (0 - 1) = 0 - 1000 * 1000");
        holds("(0 - 1001) * 1000 = 0 - 1000 * 1000");
        holds("1000 * (0 - 1001) = 0 - 1000 * 1000");
        holds("(0 - 1000 * 1000) * (1000 * 1000) = 0 - 1000 * 1000");
        holds("0 - 1000 * 1000 - 2 + 1 = 1 - 1000 * 1000");
        fails("0 - 1000 * 1000 - 1 < 0 - 1000 * 1000");
    }

    /** "All from the left on": what is above the bound is cut there at once */
    private static void fromTheLeftOn() {
        holds("9999 * 9999 / 1000 = 1000");
        holds("9999 * 9999 - 9999 * 9999 = 0");
        holds("1000 * 1000 + 5 - 5 = 1000 * 1000 - 5");
        holds("5 - 5 + 1000 * 1000 = 1000 * 1000");
        holds("0 - 9999 * 9999 - 5 + 1000 * 1000 = 0");
        holds("9999 * 1000 / 10 * 10 = 1000 * 1000");
    }

    /** "SIGN is < or > or =" */
    private static void signs() {
        holds("2 < 3");
        fails("3 < 3");
        fails("4 < 3");
        fails("2 > 3");
        fails("3 > 3");
        holds("4 > 3");
        fails("2 = 3");
        holds("3 = 3");
        fails("4 = 3");
        for (String fact : new String[] {"2 < 3", "4 > 3", "3 = 3", "all", "[all]", "not 3 < 3", "not 3 > 3", "not 3 = 4"}) {
            holds(fact + " and all");
            holds("all and " + fact);
            holds(fact + " and " + fact);
            holds(fact + " or not all");
            holds("not all or " + fact);
            holds(fact + " or all");
            fails("not " + fact);
            fails(fact + " and not all");
            fails("not all and " + fact);
            fails("not " + fact + " or not all");
            holds("not not " + fact);
        }
        refused(1, "send up when 1 <^= 2;");
        refused(1, "send up when 1 <^> 2;");
        refused(1, "send up when 1 =^= 2;");
        refused(1, "send up when 1 ^! 2;");
        refused(1, "send up when 1 < 2 ^< 3;");
        refused(1, "send up when 1^;");
        refused(1, "send up when ^< 2;");
    }

    /** "TEST: BOTH { or BOTH }. BOTH: FACT { and FACT }. FACT: not FACT; [ TEST ] ; all" */
    private static void orAndNot() {
        holds("all");
        fails("not all");
        holds("all or not all and not all");
        holds("not all and not all or all");
        fails("[all or not all] and not all");
        holds("not all or all");
        fails("not [all or all]");
        holds("not [not all or not all]");
        holds("not all or not all or all");
        fails("all and all and not all");
        holds("not 1 = 2 and 1 = 1");
        fails("not 1 = 1 or 1 = 2");
        refused(1, "send up when all ^all;");
        refused(1, "send up when all and^;");
        refused(1, "send up when all or ^or all;");
        refused(1, "send up when [^];");
        refused(1, "send up when [all^);");
        refused(1, "send up when (^all);");
        refused(1, "send up when (1 ^= 1);");
        refused(1, "send up when all^];");
        refused(1, "send up when all ^= 1;");
        refused(1, "send up when not^;");
        refused(1, "send up when 1 = ^not 1;");
        refused(1, "send up when 1 = ^[1];");
    }

    /** "min ( SUM , SUM ) ; max ( SUM , SUM )" */
    private static void minMax() {
        holds("min(3,4) = 3");
        holds("min(4,3) = 3");
        holds("max(3,4) = 4");
        holds("max(4,3) = 4");
        holds("min(3,3) = max(3,3)");
        holds("max(0 - 1, 0 - 2) = 0 - 1");
        holds("min(1 + 2 * 3, 9) * 2 = 14");
        refused(1, "send up when min ^1 = 1;");
        refused(1, "send up when min(1^) = 1;");
        refused(1, "send up when min(1,2^,3) = 1;");
        refused(1, "send up when max(^,2) = 1;");
        refused(1, "send up when max(1,2 ^= 1;");
        refused(1, "send up when max^;");
    }

    /** "4 the 7th ( [ not that is open at once .., at it" */
    private static void sixOpen() {
        holds("[[[[[[all]]]]]]");
        refused(4, "send up when [[[[[[^[all]]]]]]];");
        holds("not not not not not not all");
        refused(4, "send up when not not not not not not ^not all;");
        holds("((((((1)))))) = 1");
        refused(4, "send up when ((((((^(1))))))) = 1;");
        holds("1 = ((((((1))))))");
        refused(4, "send up when 1 = ((((((^(1)))))));");
        holds("min(max(min(max(min(max(1,2),3),4),5),6),7) = 6");
        refused(4, "send up when min(min(min(min(min(min(min^(1,2),3),4),5),6),7),8) = 1;");
        holds("max(1,max(1,max(1,max(1,max(1,max(1,2)))))) = 2");
        refused(4, "send up when max(1,max(1,max(1,max(1,max(1,max(1,max ^(1,2))))))) = 2;");
        holds("[not [not [(1) = 1]]]");
        fails("[not [not [not 1 = 1]]]");
        refused(4, "send up when [not [not [not ^[1 = 1]]]];");
        refused(4, "send up when [not [not [not ^(1) = 1]]];");
        refused(4, "send up when [[[[[[ 1 < ^(");
        refused(4, "send up when [[[[[[ ^not ?");
    }

    /** "(not until its FACT ends)": a not is open no longer, and no shorter, than its fact */
    private static void untilItsFactEnds() {
        fails("not all and not all and not all and not all and not all and not all and not all");
        holds("not not not not not not all and not not not not not not all");
        holds("not not not not not (1) = 2 and not not not not not not all");
        holds("not not not not not not 1 = 1 or [[[[[[all]]]]]]");
        holds("not not not not not not 1 = 1 or ((((((1)))))) = 1");
        holds("not not not not [(1) = 1]");
        refused(4, "send up when not not not not not not 1 = ^(1);");
        refused(4, "send up when not not not not not not 1 + ^(1) = 2;");
        refused(4, "send up when not not not not not not ^(1) = 1;");
        refused(4, "send up when not not not not not not ^[all];");
        refused(4, "send up when not not not not not (1) = min(^(2),3);");
        refused(4, "send up when not [all or not not not not ^not not all];");
        fails("not [not all or not not not not all and not not not not all]");
    }

    /** ") ] end what they opened": as many as one likes, one behind the other, statement behind statement */
    private static void sevenOpenElsewhere() {
        holds("(1) + (1) + (1) + (1) + (1) + (1) + (1) = (7)");
        holds("[all] and [all] and [all] and [all] and [all] and [all] and [all]");
        holds("((((((1)))))) + ((((((1)))))) = ((((((2))))))");
        holds("[[[[[(1) = 1]]]]] and [[[[[1 = (1) and (1) = 1]]]]]");
        taken("send up when ((((((1)))))) = 1;".repeat(3), 3);
        refused(1, "send up when 1 = 1^);");
        refused(1, "send up when [[[[[[ ^] ;");
        refused(1, "send up when [[[[[[ 1 = ^[ ;");
    }

    /** "words and numbers whole, at their first byte" */
    private static void wholeWords() {
        refused(1, "^sends up when all;");
        refused(1, "^sen");
        refused(1, "^fee 1;");
        refused(1, "send ^ups when all;");
        refused(1, "send ^kind when all;");
        refused(1, "send ^5 when all;");
        refused(1, "send up ^whens all;");
        refused(1, "send up ^all;");
        refused(1, "send up when ^al;");
        refused(1, "send up when ^alls;");
        refused(1, "send up when ^abcdefgh;");
        refused(1, "send up when all ^ors all;");
        refused(1, "send up when all ^an all;");
        refused(1, "send up when ^kinds = 1;");
        refused(1, "send up when ^price = 1;");
        refused(1, "send up when 1 = ^up;");
        refused(1, "send up when 1 = ^s;");
        refused(1, "send up when all;^;");
    }

    /** "Blanks (10, 32) are where one likes (words and numbers side by side need one)." */
    private static void blanks() {
        holds("[1<2]and(kind)=0 or not[all]");
        holds("\n( 1 )\n+ min\n( 1 , 2 )= 2 \n");
        refused(1, "send up when^1 = 1;");
        refused(1, "send up when 1 = 1^or all;");
        refused(1, "send up when kind^1 = 1;");
        refused(1, "send up when 1 = 1^and all;");
        refused(1, "send up^1 when all;");
        refused(1, "send^\tup when all;");
        refused(1, "send up when^\r all;");
    }

    /** "at the text's length, if it ends too soon" */
    private static void endsTooSoon() {
        String text = "send up down same when not [ all and min ( 1 , 2 ) < 3 * kind / ( 4 - 5 ) + 6 or 1 = 2 ] ;";
        taken(text, 1);
        for (int at = 1; at < text.length(); at++) {
            if (text.charAt(at) == ' ') {
                refused(1, text.substring(0, at) + "^");
                refused(1, text.substring(0, at) + "\n ^");
            }
        }
    }

    /** "FAULTS of both, the first along the text" */
    private static void firstAlongTheText() {
        refused(3, "send up ^up up up when ?");
        refused(1, "send up when 1234^5 ?");
        refused(4, "send up when [[[[[[^[ 12345");
        refused(5, "send up down same ^up 12345");
        refused(1, "send up when all^? ;send up up");
        refused(1, "send up when all;^? send up up when all;");
    }

    /** "kind: the number of the SORT" */
    private static void kinds() {
        ThreeSizes x = Due.with(HOUSE);
        Due.rule(x, 0, "send up when kind = 0;send down when kind = 1;");
        x.person(1, 40);
        x.person(0, 40);
        Due.is("sort 1", x.box(0, 0, 0), 1);
        Due.is("sort 0", x.box(0, 1, 0), 16);
    }

    /** "tried: BOXES that came back so far" */
    private static void tried() {
        ThreeSizes x = Due.with(HOUSE);
        Due.rule(x, 0, "send up when tried = 0;send above when tried = 1;send same when tried = 2;");
        x.person(1, 40);
        Due.is("none", x.box(0, 0, 0), 16);
        x.send(0, 0, 4);
        Due.is("one is out", x.box(0, 0, 0), 16);
        x.back(0, 3);
        Due.is("one came whole", x.box(0, 0, 0), 8);
        x.send(0, 1, 4);
        x.back(0, 0);
        Due.is("one more, of which one is kept", x.box(0, 0, 0), 4);
        x.send(0, 1, 4);
        x.back(0, 0);
        Due.is("three", x.box(0, 0, 0), 0);
    }

    /** "less, more: THOUGHT of feet below, above what is asked, together" */
    private static void lessAndMore() {
        holds("less = 2500");
        holds("more = 3500");
        ThreeSizes x = Due.with(HOUSE);
        Due.rule(x, 0, "send up when less = 3 and more = 9;");
        Due.think(x, new int[][] {{0, 40, 1, 2, 9988, 4, 5}, {0, 40, 1, 3, 9987, 4, 5}, {0, 40, 1, 2, 9987, 4, 6}},
                new int[][] {{0, 10000, 0}, {0, 10000, 0}});
        Due.is("1 and 2, 4 and 5", x.box(0, 0, 0), 16);
        Due.is("1 and 3", x.box(0, 1, 0), 0);
        Due.is("4 and 6", x.box(0, 2, 0), 0);
    }

    /** "small, large: THOUGHT of the LAST" */
    private static void smallAndLarge() {
        holds("small = 3000");
        holds("large = 2000");
        ThreeSizes x = Due.with(HOUSE);
        x.person(0, 40);
        Due.rule(x, 0, "send up when small = 0 and large = 0;");
        Due.is("of a", x.box(0, 0, 0), 0);
        Due.is("of b", x.box(0, 0, 1), 16);
    }

    /** "cost: its price; charge: the fee" */
    private static void costAndCharge() {
        holds("cost = 250");
        holds("charge = 6");
        ThreeSizes x = Due.with(HOUSE);
        x.person(0, 40);
        Due.rule(x, 0, "send up when cost = 0 and charge = 99;");
        Due.is("fee 6", x.box(0, 0, 1), 0);
        x.fee(99);
        Due.is("fee 99", x.box(0, 0, 1), 16);
        Due.is("of a", x.box(0, 0, 0), 0);
    }

    /** "of its STATEMENTS the first whose TEST holds"; "none without one" */
    private static void firstThatHolds() {
        Due.is("the first", boxOf("send up when all;send down when all;"), 16);
        Due.is("the second", boxOf("send up when 1 > 1;send down when all;send same when all;"), 1);
        Due.is("the third", boxOf("send up when 1 > 1;send down when 1 < 1;send same when all;"), 4);
        Due.is("none", boxOf("send up when 1 > 1;send down when 1 < 1;"), 0);
        Due.is("no statements", boxOf(""), 0);
        Due.is("the 40th", boxOf("send up when not all;".repeat(39) + "send below when all;"), 2);
    }

    /** "sizes outside 30 .. 49 left out; none .. if none is left" */
    private static void outsideLeftOut() {
        ThreeSizes x = Due.with(HOUSE);
        for (int size : new int[] {30, 31, 32, 47, 48, 49}) {
            x.person(0, size);
        }
        String[] rules = {"send down when all;send up when all;", "send up when all;send down when all;",
            "send down below same when all;", "send same above up when all;", "send below when all;",
            "send above when all;"};
        int[][] due = {{0, 0, 1, 1, 1, 1}, {16, 16, 16, 16, 0, 0}, {4, 6, 7, 7, 7, 7}, {28, 28, 28, 28, 12, 4},
            {0, 2, 2, 2, 2, 2}, {8, 8, 8, 8, 8, 0}};
        for (int k = 0; k < rules.length; k++) {
            Due.rule(x, 0, rules[k]);
            for (int person = 0; person < 6; person++) {
                Due.is(rules[k] + " for person " + person, x.box(0, person, 0), due[k][person]);
            }
        }
    }

    /** "box(rule, person, last): .. NONE when there is none such" */
    private static void noneSuch() {
        ThreeSizes x = Due.with(HOUSE);
        x.person(0, 40);
        Due.rule(x, 0, "send up when all;");
        Due.is("it is", x.box(0, 0, 1), 16);
        for (int none : new int[] {-1, 1, 2, 3, Integer.MIN_VALUE, Integer.MAX_VALUE}) {
            Due.is("rule " + none, x.box(none, 0, 0), -1);
            Due.is("person " + none, x.box(0, none, 0), -1);
            if (none != 1) {
                Due.is("last " + none, x.box(0, 0, none), -1);
            }
        }
    }

    /** "rule(k): .. NONE with a FAULT (all stays)" */
    private static void faultsLeaveTheRule() {
        String[] texts = {"?", "send down when all;send", "send down down when all;", "send up when [[[[[[[all]]]]]]];",
            "send down when all;".repeat(41)};
        for (String text : texts) {
            ThreeSizes x = Due.with(HOUSE);
            x.person(0, 40);
            Due.rule(x, 1, "send up when all;");
            String seen = Due.seen(x);
            Due.is("a fault in place of one", Due.rule(x, 1, text), -1);
            Due.is("the tape went", x.end(1), false);
            Due.same("all stays", Due.seen(x), seen);
            Due.is("a fault in place of none", Due.rule(x, 2, text), -1);
            Due.same("all stays", Due.seen(x), seen);
        }
    }

    /** "in place of that which is there" */
    private static void inItsPlace() {
        ThreeSizes x = Due.with(HOUSE);
        x.person(0, 40);
        Due.rule(x, 0, "send up when all;send down when all;");
        Due.is("up", x.box(0, 0, 0), 16);
        Due.is("a shorter one", Due.rule(x, 0, "send below when all;"), 1);
        Due.is("below", x.box(0, 0, 0), 2);
        Due.is("one that never holds", Due.rule(x, 0, "send below when not all;"), 1);
        Due.is("nothing of the old ones", x.box(0, 0, 0), 0);
        Due.is("an empty one", x.rule(0), 0);
        Due.is("it is a rule", x.has(3), 1);
        Due.is("without a box", x.box(0, 0, 0), 0);
    }
}
