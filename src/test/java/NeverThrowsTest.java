import java.util.Random;

/** No call throws, whatever it is given and however often; refused calls change nothing that can be asked. */
public final class NeverThrowsTest {
    private static final String HOUSE = "last a price 100 runs 20 50 30;last b price 50 runs 0 100 0;"
            + "sort s off 10 20 40 20 10 wear 10 grow 20 leave 1;keeps 0 10 50 10 0;fare 5;wipe 2;"
            + "stock a 30 9;stock a 40 9;stock a 41 9;stock a 49 9;stock b 42 1;ask q 1 2 3 4 5;";
    private static final int[] EDGES = {Integer.MIN_VALUE, Integer.MIN_VALUE + 1, -1000000000, -33, -3, -2, -1, 0, 1, 2,
        3, 4, 5, 6, 7, 8, 10, 12, 14, 16, 19, 20, 21, 29, 30, 31, 32, 40, 49, 50, 99, 100, 101, 255, 1600,
        Integer.MAX_VALUE - 1, Integer.MAX_VALUE};

    private final Random random;
    private final ThreeSizes x = new ThreeSizes();

    private NeverThrowsTest(long seed) {
        random = new Random(seed);
    }

    public static void main(String[] args) {
        for (int seed = 0; seed < 300; seed++) {
            NeverThrowsTest test = new NeverThrowsTest(seed);
            if (seed % 3 != 0) {
                Due.house(test.x, HOUSE);
                Due.rule(test.x, 0, "send down same up when all;");
                Due.rule(test.x, 1, "send above when less / (small - small) > 0 - 1;");
            }
            for (int i = 0; i < 3000; i++) {
                test.call();
            }
        }
        fullTapes();
        Due.is("it got here", true, true);
        Due.rest("NeverThrowsTest");
    }

    private int any() {
        return random.nextInt(4) == 0 ? EDGES[random.nextInt(EDGES.length)] : random.nextInt(6) - 1;
    }

    private int bits() {
        return random.nextInt(3) == 0 ? any() : random.nextInt(34) - 1;
    }

    private int size() {
        return random.nextInt(3) == 0 ? any() : 28 + random.nextInt(24);
    }

    private void call() {
        switch (random.nextInt(37)) {
            case 0: x.feed(random.nextInt(), any(), any(), any(), any()); break;
            case 1: x.end(any()); break;
            case 2: if (random.nextInt(40) == 0) { x.house(); } break;
            case 3: x.rule(random.nextInt(20) == 0 ? any() : 2); break;
            case 4: x.fault(any()); break;
            case 5: x.has(any()); break;
            case 6: x.letter(any(), any(), any()); break;
            case 7: x.person(any(), size()); break;
            case 8: x.foot(any(), any()); break;
            case 9: x.last(any(), any()); break;
            case 10: x.who(any(), any()); break;
            case 11: x.keeps(any(), any(), bits(), any()); break;
            case 12: x.after(any(), any(), bits(), any(), any()); break;
            case 13: x.teaches(any(), any(), bits(), any(), any()); break;
            case 14: x.mean(any(), any(), bits(), random.nextBoolean()); break;
            case 15: x.best(any(), any(), random.nextBoolean()); break;
            case 16: x.box(any(), any(), any()); break;
            case 17: x.way(any(), any(), any()); break;
            case 18: x.send(any(), any(), bits()); break;
            case 19: x.back(any(), any()); break;
            case 20: x.days(any()); break;
            case 21: x.stock(any(), size()); break;
            case 22: x.answer(any(), any(), random.nextBoolean()); break;
            case 23: x.worth(any(), any(), any()); break;
            case 24: x.question(any(), any()); break;
            case 25: x.fee(any()); break;
            case 26: x.step(any(), any(), bits()); break;
            case 27: x.print(any()); break;
            case 28: x.alike(any(), any()); break;
            case 29: x.strangers(any(), any()); break;
            case 30: x.hold(any(), size()); break;
            case 31: x.year(); break;
            case 32: x.draw(any()); break;
            case 33: x.truth(any()); break;
            case 34: x.trial(any(), any(), any()); break;
            case 35: x.image(); x.octet(any()); break;
            default: x.on();
        }
    }

    /** Texts that fill the tape, of the kinds that lead deepest or on longest. */
    private static void fullTapes() {
        String[] starts = {"send up when ", "send up when 1", "send up when not ", "fee 1;", "last ", ""};
        String[] goOn = {"(", "[", "not ", "min(", "+1", "*9", "/0", "all or ", "all and ", "fee 1;", "a", "1", " ",
            ";", "up ", "send up when all;", "\u00ff"};
        for (String start : starts) {
            for (String more : goOn) {
                StringBuilder text = new StringBuilder(start);
                while (text.length() + more.length() <= 1600) {
                    text.append(more);
                }
                ThreeSizes x = new ThreeSizes();
                Due.rule(x, 0, text.toString());
                Due.house(x, text.toString());
                Due.tape(x, text.toString());
                x.on();
            }
        }
        StringBuilder sum = new StringBuilder("send up when 1");
        while (sum.length() < 1590) {
            sum.append("+1");
        }
        sum.append("=789;");
        ThreeSizes x = Due.with(HOUSE);
        x.person(0, 40);
        Due.is("a long sum", Due.rule(x, 0, sum.toString()), 1);
        Due.is("it holds", x.box(0, 0, 0), 16);
    }
}
