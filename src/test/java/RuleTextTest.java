/** Promises 5 (rule), 6 (fault), 18 (box). */
public final class RuleTextTest {
    private static final String HOUSE = "last a price 250 runs 30 50 20;last b price 40 runs 0 100 0;"
            + "sort s off 0 0 100 0 0 wear 0 grow 0 leave 0;sort t off 10 15 40 20 15 wear 0 grow 0 leave 0;"
            + "keeps 10 20 50 20 10;fee 6;stock a 40 9;";

    public static void main(String[] args) {
        counts();
        sizes();
        facts();
        sums();
        tests();
        wrongTexts();
        wrongSizes();
        depths();
        replaced();
        boxes();
        Due.rest("RuleTextTest");
    }

    private static void counts() {
        ThreeSizes x = new ThreeSizes();
        Due.is("an empty rule", x.rule(0), 0);
        Due.is("it is one", x.has(3), 1);
        Due.is("rule 2", Due.rule(x, 2, "send up when all;\n send down when all ;"), 2);
        Due.is("rules", x.has(3), 2);
        Due.is("rule 3", Due.rule(x, 3, "send up when all;"), -2);
        Due.is("the tape went", x.feed(0, 0, 0, 0, 0), 20);
        x.end(0);
        Due.is("rule -1", Due.rule(x, -1, "send up when all;"), -2);
        Due.is("rules", x.has(3), 2);
        Due.is("a fault", Due.rule(x, 1, "send up when all"), -1);
        Due.is("the tape went", x.feed(0, 0, 0, 0, 0), 20);
        x.end(0);
        Due.is("no rule 1", x.has(3), 2);
        String forty = "send up when all;".repeat(40);
        Due.is("40 statements", Due.rule(x, 1, forty), 40);
        Due.is("blanks behind them", Due.rule(x, 1, forty + " \n"), 40);
        Due.ruleFault(forty + "send up when all;", 5, 680);
        Due.ruleFault(forty + " ;", 5, 681);
    }

    private static int boxOf(String text) {
        ThreeSizes x = Due.with(HOUSE);
        x.person(1, 40);
        Due.is("rule '" + text + "' is one", Due.rule(x, 0, text) >= 0, true);
        return x.box(0, 0, 0);
    }

    private static void sizes() {
        Due.is("down", boxOf("send down when all;"), 1);
        Due.is("below", boxOf("send below when all;"), 2);
        Due.is("same", boxOf("send same when all;"), 4);
        Due.is("above", boxOf("send above when all;"), 8);
        Due.is("up", boxOf("send up when all;"), 16);
        Due.is("three", boxOf("send up same down when all;"), 21);
        Due.is("the first that holds", boxOf("send up when not all;send same when all;send down when all;"), 4);
        Due.is("none", boxOf("send up when not all;"), 0);
    }

    private static void holds(String test, boolean due) {
        Due.is(test, boxOf("send up when " + test + ";") == 16, due);
    }

    private static void facts() {
        holds("kind = 1", true);
        holds("tried = 0", true);
        holds("less = 2500", true);
        holds("more = 3500", true);
        holds("small = 3000", true);
        holds("large = 2000", true);
        holds("cost = 250", true);
        holds("charge = 6", true);
        ThreeSizes x = Due.with(HOUSE);
        x.person(0, 40);
        x.person(1, 40);
        Due.rule(x, 0, "send up when kind = 0;send down when kind = 1;");
        Due.rule(x, 1, "send up when tried = 1;send above when tried = 2;");
        Due.rule(x, 2, "send up when cost = 40 and charge = 7;");
        Due.is("kind 0", x.box(0, 0, 0), 16);
        Due.is("kind 1", x.box(0, 1, 0), 1);
        x.send(1, 0, 4);
        Due.is("not yet back", x.box(1, 1, 0), 0);
        x.back(1, 3);
        Due.is("tried 1", x.box(1, 1, 0), 16);
        Due.is("of the other", x.box(1, 0, 0), 0);
        x.send(1, 0, 4);
        x.back(1, 0);
        Due.is("tried 2", x.box(1, 1, 0), 8);
        Due.is("charge 6", x.box(2, 0, 1), 0);
        x.fee(7);
        Due.is("charge 7", x.box(2, 0, 1), 16);
        Due.is("another last", x.box(2, 0, 0), 0);
    }

    private static void sums() {
        holds("2 + 3 * 4 = 14", true);
        holds("(2 + 3) * 4 = 20", true);
        holds("10 - 3 - 2 = 5", true);
        holds("100 / 10 / 2 = 5", true);
        holds("7 / 2 * 2 = 6", true);
        holds("(0 - 7) / 2 = 0 - 4", true);
        holds("7 / (0 - 2) = 0 - 4", true);
        holds("(0-8)/(0-2)=4", true);
        holds("5 / 0 = 0", true);
        holds("9999 * 9999 - 9999 * 100 = 100", true);
        holds("9999 * 100 + 9999 - 9999 * 100 = 100", true);
        holds("0 - 9999 * 9999 - 5 + 9999 * 100 = 0 - 100", true);
        holds("(0 - 9999) * 9999 + 9999 * 100 = 0 - 100", true);
        holds("min(3, 4) = 3 and min(4, 3) = 3 and max(3, 4) = 4 and max ( 4 , 3 ) = 4", true);
        holds("min(1 + 1, max(3, 2) * 2) = 2", true);
        holds("0009 = 9", true);
        holds("3 < 3", false);
        holds("2 < 3", true);
        holds("3 > 3", false);
        holds("4 > 3", true);
        holds("4 = 3", false);
    }

    private static void tests() {
        holds("all or all and not all", true);
        holds("[all or all] and not all", false);
        holds("not all or all", true);
        holds("not [all or all]", false);
        holds("not 1 = 2 and 1 = 2", false);
        holds("not not all", true);
        holds("not not not all", false);
        holds("1 = 2 or 2 = 3 or 3 = 3", true);
        holds("1 = 1 and 2 = 2 and 3 = 4", false);
        holds("[[1 = 1]] and (1) = (1)", true);
    }

    private static void wrongTexts() {
        Due.ruleFault("x", 1, 0);
        Due.ruleFault("send", 1, 4);
        Due.ruleFault("send when all;", 1, 5);
        Due.ruleFault("send kind when all;", 1, 5);
        Due.ruleFault("send up all;", 1, 8);
        Due.ruleFault("send up when ;", 1, 13);
        Due.ruleFault("send up when all", 1, 16);
        Due.ruleFault("send up when all all;", 1, 17);
        Due.ruleFault("send up when 1;", 1, 14);
        Due.ruleFault("send up when 1 <;", 1, 16);
        Due.ruleFault("send up when 1 < 2 < 3;", 1, 19);
        Due.ruleFault("send up when 1 < = 2;", 1, 17);
        Due.ruleFault("send up when 1 + = 2;", 1, 17);
        Due.ruleFault("send up when - 1 = 2;", 1, 13);
        Due.ruleFault("send up when (all);", 1, 14);
        Due.ruleFault("send up when [1];", 1, 15);
        Due.ruleFault("send up when [all;", 1, 17);
        Due.ruleFault("send up when [all);", 1, 17);
        Due.ruleFault("send up when (1 = 1;", 1, 16);
        Due.ruleFault("send up when 1 = [1];", 1, 17);
        Due.ruleFault("send up when min 1 = 1;", 1, 17);
        Due.ruleFault("send up when min(1) = 1;", 1, 18);
        Due.ruleFault("send up when min(1, 2, 3) = 1;", 1, 21);
        Due.ruleFault("send up when max(1, 2 = 1;", 1, 22);
        Due.ruleFault("send up when all or;", 1, 19);
        Due.ruleFault("send up when all and or all;", 1, 21);
        Due.ruleFault("send up when not;", 1, 16);
        Due.ruleFault("send up when 1 not = 2;", 1, 15);
        Due.ruleFault("send up when foo = 2;", 1, 13);
        Due.ruleFault("send up when price = 2;", 1, 13);
        Due.ruleFault("send up when 12345 = 2;", 1, 17);
        Due.ruleFault("send up when 1 12345 = 2;", 1, 15);
        Due.ruleFault("send up when 1 = 2or all;", 1, 18);
        Due.ruleFault("send up when1 = 2;", 1, 12);
        Due.ruleFault("send up when kind2 = 2;", 1, 17);
        Due.ruleFault("send up when all;fee 1;", 1, 17);
        Due.ruleFault("send up when kind ! 2;", 1, 18);
        Due.is("no blanks needed beside signs", boxOf("send up when[1<2]and(kind)=1;"), 16);
        Due.is("number then word", boxOf("send up when 1=1 and 2=2;"), 16);
    }

    private static void wrongSizes() {
        Due.ruleFault("send up up when all;", 3, 8);
        Due.ruleFault("send up down up when all;", 3, 13);
        Due.ruleFault("send up down same above when all;", 5, 18);
        Due.ruleFault("send up down same up when all;", 5, 18);
        Due.ruleFault("send up down same send when all;", 1, 18);
        Due.ruleFault("send up;", 1, 7);
        Due.ruleFault("send up 5 when all;", 1, 8);
    }

    private static void depths() {
        String send = "send up when ";
        holds("not not not not not not all", true);
        Due.ruleFault(send + "not not not not not not not all;", 4, 37);
        holds("[[[[[[all]]]]]]", true);
        Due.ruleFault(send + "[[[[[[[all]]]]]]];", 4, 19);
        holds("((((((1)))))) = 1", true);
        Due.ruleFault(send + "(((((((1))))))) = 1;", 4, 19);
        holds("min(1,min(1,min(1,min(1,min(1,min(1,2)))))) = 1", true);
        Due.ruleFault(send + "min(1,min(1,min(1,min(1,min(1,min(1,min(1,2)))))));", 4, 13 + 36 + 3);
        holds("not [ not [ not [ all ] ] ]", false);
        Due.ruleFault(send + "not [ not [ not [ (1) = 1 ] ] ];", 4, 31);
        holds("not [not all] and not [not [not [all]]] or [[[[[[all]]]]]]", true);
        holds("not 1 = 1 or not 1 = 1 or not 1 = 1 or not 1 = 1 or not 1 = 1 or not 1 = 1 or not 1 = 2", true);
        holds("not not not not not (1) = 2 or ((((((1)))))) = 1", true);
        Due.ruleFault(send + "not not not not not (1) = (2 + (1));", 4, 13 + 31);
        Due.ruleFault(send + "[[[[[[ ] ;", 1, 20);
        Due.ruleFault(send + "[[[[[[ 1 = [ ;", 1, 24);
    }

    private static void replaced() {
        ThreeSizes x = Due.with(HOUSE);
        x.person(0, 40);
        Due.rule(x, 1, "send up when all;");
        Due.is("rule 1", x.box(1, 0, 0), 16);
        Due.rule(x, 1, "send down when all;send ?");
        Due.is("it stays with a fault", x.box(1, 0, 0), 16);
        Due.rule(x, 1, "send down when all;");
        Due.is("in its place", x.box(1, 0, 0), 1);
        Due.is("still one rule", x.has(3), 1);
        Due.rule(x, 1, "");
        Due.is("an empty one", x.box(1, 0, 0), 0);
    }

    private static void boxes() {
        ThreeSizes x = Due.with(HOUSE);
        x.person(0, 49);
        x.person(0, 30);
        x.person(0, 48);
        Due.rule(x, 0, "send down same up when all;");
        Due.rule(x, 1, "send above when kind = 0;send same when all;");
        Due.is("above 49 left out", x.box(0, 0, 0), 5);
        Due.is("below 30 left out", x.box(0, 1, 0), 20);
        Due.is("just above 49", x.box(0, 2, 0), 5);
        Due.is("none is left, no other statement", x.box(1, 0, 0), 0);
        Due.is("it is there at 48", x.box(1, 2, 0), 8);
        Due.is("no such rule", x.box(2, 0, 0), -1);
        Due.is("rule 3", x.box(3, 0, 0), -1);
        Due.is("rule -1", x.box(-1, 0, 0), -1);
        Due.is("no such person", x.box(0, 3, 0), -1);
        Due.is("person -1", x.box(0, -1, 0), -1);
        Due.is("no such last", x.box(0, 0, 2), -1);
        Due.is("last -1", x.box(0, 0, -1), -1);
    }
}
