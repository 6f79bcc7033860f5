import java.util.ArrayList;
import java.util.List;
import java.util.Random;

/** All promises: random runs of calls, answered by the program and by the plain model alike. */
public final class AgainstPlainTest {
    private static final int RUNS = 3000;
    private static final int TEXTS = 30000;
    /** Nothing is promised of an object's 513th call: no run goes on behind this many, but to end what it is at. */
    private static final int ENOUGH = 400;
    private static final int LAST_LOOKS = 485;
    private static final int PROMISED = 512;

    private final Random random;
    private final ThreeSizes sizes = new ThreeSizes();
    private final PlainModel plain = new PlainModel();
    private final List<String> told = new ArrayList<>();
    private boolean apart;
    private int called;

    private AgainstPlainTest(long seed) {
        random = new Random(seed);
    }

    public static void main(String[] args) {
        long from = args.length > 0 ? Long.parseLong(args[0]) : 1;
        int times = args.length > 1 ? Integer.parseInt(args[1]) : 1;
        int wrong = 0;
        for (long seed = from; seed < from + (long) RUNS * times && wrong < 5; seed++) {
            AgainstPlainTest run = new AgainstPlainTest(seed);
            run.live();
            wrong += run.report(seed);
        }
        AgainstPlainTest texts = new AgainstPlainTest(from);
        for (int i = 0; i < TEXTS * times && !texts.apart; i++) {
            if (texts.called > ENOUGH) {
                texts = new AgainstPlainTest(from + i);
            }
            texts.readText();
        }
        wrong += texts.report(from);
        System.out.println("AgainstPlainTest: " + RUNS * times + " runs, " + TEXTS * times + " texts, " + wrong
                + " apart");
        if (wrong != 0) {
            System.exit(1);
        }
    }

    private int report(long seed) {
        if (called > PROMISED) {
            System.out.println("seed " + seed + " made " + called + " calls of one object");
            return 1;
        }
        if (!apart) {
            return 0;
        }
        System.out.println("seed " + seed + ":");
        for (String row : told.subList(Math.max(0, told.size() - 60), told.size())) {
            System.out.println("  " + row);
        }
        return 1;
    }

    private boolean same(String call, long got, long want) {
        called++;
        told.add(call + " = " + got + (got == want ? "" : ", the model says " + want));
        if (got != want) {
            apart = true;
        }
        return got == want;
    }

    private boolean same(String call, boolean got, boolean want) {
        return same(call, got ? 1 : 0, want ? 1 : 0);
    }

    private int below(int n) {
        return random.nextInt(n);
    }

    private boolean oneOf(int n) {
        return below(n) == 0;
    }

    private <T> T any(T[] all) {
        return all[below(all.length)];
    }

    // ---------------------------------------------------------------- texts

    private static final String[] OWN = PlainModel.OWN.toArray(new String[0]);
    private static final String[] SIGNS = {";", "(", ")", "[", "]", ",", "<", ">", "=", "+", "-", "*", "/",
        "!", "A", "\t", "\u00e9", "0", "12345", "abcdefg", "x", "7", " ", "\n", "_", "."};
    private static final String[] FACTS = {"kind", "tried", "less", "more", "small", "large", "cost", "charge"};
    private static final String[] SIZE_WORDS = {"down", "below", "same", "above", "up"};

    private String blank() {
        return oneOf(12) ? any(new String[] {"\n", "  ", " \n "}) : " ";
    }

    private String maybeBlank() {
        return oneOf(3) ? blank() : "";
    }

    private String hundred() {
        return String.valueOf(oneOf(60) ? below(300) : oneOf(3) ? 100 * below(2) : below(101));
    }

    private String chances(int count) {
        StringBuilder text = new StringBuilder();
        int left = oneOf(40) ? 120 : 100;
        for (int i = 0; i < count; i++) {
            int chance = oneOf(3) ? 0 : below(left + 1);
            left -= chance;
            text.append(blank()).append(chance);
        }
        return text.toString();
    }

    private String fresh(List<String> names) {
        StringBuilder name = new StringBuilder();
        int length = oneOf(60) ? 7 : 1 + below(6);
        for (int i = 0; i < length; i++) {
            name.append((char) ('a' + below(26)));
        }
        names.add(oneOf(80) && !names.isEmpty() ? names.get(0) : oneOf(100) ? any(OWN) : name.toString());
        return names.get(names.size() - 1);
    }

    private String houseText() {
        StringBuilder text = new StringBuilder();
        List<String> names = new ArrayList<>();
        List<String> lasts = new ArrayList<>();
        int many = oneOf(8) ? 9 : 3;
        int count = 1 + below(many);
        for (int i = 0; i < count; i++) {
            lasts.add(fresh(names));
            text.append("last").append(blank()).append(lasts.get(i)).append(blank()).append("price").append(blank())
                    .append(below(oneOf(3) ? 10000 : 500)).append(blank()).append("runs").append(chances(3))
                    .append(maybeBlank()).append(";").append(maybeBlank());
        }
        count = 1 + below(oneOf(8) ? 5 : 3);
        for (int i = 0; i < count; i++) {
            text.append("sort ").append(fresh(names)).append(" off").append(chances(5)).append(" wear ")
                    .append(oneOf(2) ? "0" : hundred()).append(" grow ").append(hundred()).append(blank())
                    .append("leave ").append(oneOf(2) ? below(5) : below(101)).append(";");
        }
        text.append("keeps");
        for (int i = 0; i < 5; i++) {
            text.append(blank()).append(hundred());
        }
        text.append(";");
        if (!oneOf(4)) {
            text.append("fare ").append(below(oneOf(9) ? 10000 : 60)).append(";wipe ")
                    .append(below(oneOf(9) ? 10000 : 20)).append(" ;");
        }
        if (oneOf(3)) {
            text.append("fee ").append(below(oneOf(30) ? 120 : 100)).append(";");
        }
        count = below(oneOf(8) ? 8 : 4);
        for (int i = 0; i < count; i++) {
            text.append("ask ").append(fresh(names));
            for (int k = 0; k < 5; k++) {
                text.append(" ").append(hundred());
            }
            text.append(";");
        }
        count = 2 + below(14);
        for (int i = 0; i < count; i++) {
            text.append("stock ").append(lasts.get(below(lasts.size()))).append(" ")
                    .append(oneOf(60) ? 28 + below(24) : oneOf(4) ? 30 + below(20) : 38 + below(5)).append(" ")
                    .append(oneOf(3) ? 1 : below(oneOf(60) ? 120 : 6)).append(";");
        }
        return text.toString();
    }

    private String part(int depth) {
        switch (below(depth > 0 ? 7 : 4)) {
            case 0:
                return String.valueOf(below(oneOf(2) ? 10000 : 4));
            case 1:
            case 2:
            case 3:
                return any(FACTS);
            case 4:
                return "(" + sum(depth - 1) + ")";
            case 5:
                return "min " + maybeBlank() + "(" + sum(depth - 1) + "," + sum(depth - 1) + maybeBlank() + ")";
            default:
                return "max(" + sum(depth - 1) + " , " + sum(depth - 1) + ")";
        }
    }

    private String sum(int depth) {
        StringBuilder text = new StringBuilder(part(depth));
        for (int i = 0; i < 3 && oneOf(3); i++) {
            text.append(maybeBlank()).append(any(new String[] {"+", "-", "*", "/", "*"})).append(maybeBlank())
                    .append(part(depth));
        }
        return text.toString();
    }

    private String fact(int depth) {
        int kind = below(depth > 0 ? 6 : 4);
        if (kind == 0 && oneOf(3)) {
            return "all";
        }
        if (kind < 4) {
            return sum(depth) + maybeBlank() + any(new String[] {"<", ">", "=", "<", ">"}) + maybeBlank() + sum(depth);
        }
        return kind == 4 ? "not " + fact(depth - 1) : "[" + test(depth - 1) + "]";
    }

    private String test(int depth) {
        StringBuilder text = new StringBuilder(fact(depth));
        for (int i = 0; i < 3 && oneOf(3); i++) {
            text.append(blank()).append(oneOf(2) ? "or" : "and").append(blank()).append(fact(depth));
        }
        return text.toString();
    }

    private String ruleText(int statements) {
        StringBuilder text = new StringBuilder();
        for (int i = 0; i < statements; i++) {
            text.append("send");
            int from = below(5);
            int count = oneOf(30) ? below(6) : 1 + below(3);
            for (int k = 0; k < count; k++) {
                text.append(blank()).append(SIZE_WORDS[(oneOf(50) ? below(5) : from + 2 * k) % 5]);
            }
            text.append(" when ").append(oneOf(6) ? "all" : test(oneOf(9) ? 8 : 3)).append(maybeBlank()).append(";")
                    .append(maybeBlank());
        }
        return text.toString();
    }

    /** Something goes wrong at one place of the text. */
    private String spoilt(String text) {
        int at = below(text.length() + 1);
        switch (below(6)) {
            case 0:
                return text.substring(0, at);
            case 1:
                return text.substring(0, at) + text.substring(Math.min(text.length(), at + 1));
            case 2:
                return text.substring(0, at) + any(SIGNS) + text.substring(at);
            case 3:
                return text.substring(0, at) + any(OWN) + text.substring(at);
            case 4:
                return text.substring(0, at) + " " + any(oneOf(2) ? SIGNS : OWN) + " " + text.substring(at);
            default:
                return text.substring(0, at) + any(SIGNS) + text.substring(Math.min(text.length(), at + 1));
        }
    }

    private String cut(String text) {
        return text.length() > 1600 ? text.substring(0, 1600) : text;
    }

    private void tape(String text) {
        byte[] bytes = new byte[text.length()];
        for (int i = 0; i < bytes.length; i++) {
            bytes[i] = (byte) text.charAt(i);
        }
        tape(bytes);
    }

    private void tape(byte[] bytes) {
        for (int at = 0; at < bytes.length; at += 20) {
            int[] five = new int[5];
            for (int i = 0; i < 20; i++) {
                five[i / 4] = five[i / 4] << 8 | (at + i < bytes.length ? bytes[at + i] & 255 : 32);
            }
            same("feed", sizes.feed(five[0], five[1], five[2], five[3], five[4]),
                    plain.feed(five[0], five[1], five[2], five[3], five[4]));
        }
        same("end " + bytes.length, sizes.end(bytes.length), plain.end(bytes.length));
    }

    private void readHouse(String text) {
        tape(text);
        same("house '" + text + "'", sizes.house(), plain.house());
        faults();
    }

    private void readRule(int k, String text) {
        tape(text);
        same("rule(" + k + ") '" + text + "'", sizes.rule(k), plain.rule(k));
        faults();
    }

    private void faults() {
        for (int what = -1; what <= 2; what++) {
            same("fault(" + what + ")", sizes.fault(what), plain.fault(what));
        }
    }

    private void readText() {
        String text;
        boolean house = oneOf(2);
        if (house) {
            text = oneOf(20) ? many("fee 1;", 99 + below(3)) : houseText();
        } else {
            text = oneOf(20) ? many("send up when all;", 39 + below(3)) : ruleText(1 + below(3));
        }
        for (int i = below(3); i > 0; i--) {
            text = spoilt(text);
        }
        if (house) {
            readHouse(cut(text));
        } else {
            readRule(below(3), cut(text));
        }
    }

    private static String many(String statement, int count) {
        StringBuilder text = new StringBuilder();
        for (int i = 0; i < count; i++) {
            text.append(statement);
        }
        return text.toString();
    }

    // ---------------------------------------------------------------- runs

    private int person() {
        return oneOf(40) ? below(24) - 2 : below(Math.max(1, plain.people.size()));
    }

    private int last() {
        return oneOf(40) ? below(12) - 2 : below(Math.max(1, plain.shop.lasts.size()));
    }

    private int bits() {
        return oneOf(20) ? below(70) - 3 : oneOf(2) ? 1 << below(5) : below(32);
    }

    private int pair() {
        return oneOf(3) ? 3 : below(oneOf(9) ? 9 : 5) - 2;
    }

    private int way() {
        return oneOf(30) ? below(9) - 2 : below(6);
    }

    private int size() {
        return oneOf(30) ? 25 + below(30) : oneOf(5) ? 30 + below(20) : 38 + below(5);
    }

    /** Much in stock and much kept, so that people become alike and lasts are learnt. */
    private String richText() {
        StringBuilder text = new StringBuilder("last a price 90 runs 20 60 20;last b price 50 runs 30 40 30;"
                + "sort s off 10 20 40 20 10 wear 0 grow 10 leave 1;sort t off 0 30 30 30 10 wear 20 grow 40 leave 2;"
                + "keeps 20 50 90 60 30;fare 5;wipe 2;ask q 0 10 50 90 100;ask r 90 50 10 0 0;");
        for (int size = 36; size <= 44; size++) {
            text.append("stock a ").append(size).append(" 30;stock b ").append(size).append(" ")
                    .append(oneOf(3) ? 1 : 20).append(";");
        }
        return text.toString();
    }

    private void live() {
        readHouse(cut(oneOf(3) ? richText() : houseText()));
        int calls = 100 + below(200);
        for (int i = 0; i < calls && !apart && called < ENOUGH; i++) {
            if (plain.shop.lasts.isEmpty() || oneOf(120)) {
                readHouse(cut(oneOf(3) ? spoilt(houseText()) : houseText()));
            } else if (plain.people.size() < 3) {
                addPerson();
            } else {
                call();
            }
        }
        for (int i = 0; i < plain.people.size() && !apart && called < LAST_LOOKS; i++) {
            look(i);
        }
    }

    private void addPerson() {
        int sort = oneOf(20) ? below(7) - 1 : below(Math.max(1, plain.shop.sorts.size()));
        int size = size();
        same("person(" + sort + ", " + size + ")", sizes.person(sort, size), plain.person(sort, size));
    }

    private void look(int person) {
        for (int what = -1; what <= 8; what++) {
            same("who(" + person + ", " + what + ")", sizes.who(person, what), plain.who(person, what));
        }
        for (int d = -3; d <= 3; d++) {
            same("foot(" + person + ", " + d + ")", sizes.foot(person, d), plain.foot(person, d));
        }
        int last = last();
        for (int run = -2; run <= 2; run++) {
            same("last(" + last + ", " + run + ")", sizes.last(last, run), plain.last(last, run));
        }
    }

    private void call() {
        switch (below(6)) {
            case 0:
                callBox();
                break;
            case 1:
            case 2:
                callMove();
                break;
            case 3:
                callQuestion();
                break;
            case 4:
                callLearnt();
                break;
            default:
                callRest();
        }
    }

    private void callBox() {
        int p = person();
        int l = last();
        int b = bits();
        int e = pair();
        String box = "(" + p + ", " + l + ", " + b + ", ";
        same("keeps" + box + e + ")", sizes.keeps(p, l, b, e), plain.keeps(p, l, b, e));
        int d = below(oneOf(9) ? 9 : 5) - 2;
        same("after" + box + e + ", " + d + ")", sizes.after(p, l, b, e, d), plain.after(p, l, b, e, d));
        int r = below(oneOf(9) ? 6 : 3) - 1;
        same("teaches" + box + e + ", " + r + ")", sizes.teaches(p, l, b, e, r), plain.teaches(p, l, b, e, r));
        same("mean" + box + "false)", sizes.mean(p, l, b, false), plain.mean(p, l, b, false));
        same("mean" + box + "true)", sizes.mean(p, l, b, true), plain.mean(p, l, b, true));
        same("best " + p + " " + l + " bits", sizes.best(p, l, false), plain.best(p, l, false));
        same("best " + p + " " + l + " mean", sizes.best(p, l, true), plain.best(p, l, true));
    }

    private int withBox(int person) {
        for (int i = 0; i < plain.people.size() && !oneOf(20); i++) {
            if (!plain.people.get(i).box.isEmpty() && oneOf(2)) {
                return i;
            }
        }
        return person;
    }

    private void callMove() {
        int p = person();
        int l = last();
        int b = oneOf(3) ? Math.max(0, plain.best(p, l, false)) : bits();
        int w = way();
        int e = pair();
        switch (below(8)) {
            case 0:
            case 1:
                same("send(" + p + ", " + l + ", " + b + ")", sizes.send(p, l, b), plain.send(p, l, b));
                break;
            case 2:
            case 3:
                p = withBox(p);
                same("back(" + p + ", " + e + ")", sizes.back(p, e), plain.back(p, e));
                look(p);
                break;
            case 4:
            case 5:
                same("trial(" + p + ", " + l + ", " + w + ")", sizes.trial(p, l, w), plain.trial(p, l, w));
                look(p);
                break;
            case 6:
                int n = oneOf(9) ? below(120) - 5 : 1 + below(7);
                same("days(" + n + ")", sizes.days(n), plain.days(n));
                break;
            default:
                int seed = oneOf(9) ? random.nextInt() : below(1000);
                same("draw(" + seed + ")", sizes.draw(seed), plain.draw(seed));
        }
        int size = size();
        same("stock(" + l + ", " + size + ")", sizes.stock(l, size), plain.stock(l, size));
        same("earned()", sizes.earned(), plain.earned());
    }

    private void callQuestion() {
        int p = person();
        int l = last();
        int q = below(plain.shop.asks.size() + 1) - (oneOf(9) ? 1 : 0);
        int fee = oneOf(9) ? below(140) - 20 : below(100);
        int b = bits();
        int r = below(5) - 1;
        int w = way();
        switch (below(7)) {
            case 0:
                boolean yes = oneOf(2);
                same("answer(" + p + ", " + q + ", " + yes + ")", sizes.answer(p, q, yes), plain.answer(p, q, yes));
                look(p);
                break;
            case 1:
                same("worth(" + q + ", " + p + ", " + l + ")", sizes.worth(q, p, l), plain.worth(q, p, l));
                break;
            case 2:
                same("question(" + p + ", " + l + ")", sizes.question(p, l), plain.question(p, l));
                break;
            case 3:
                same("fee(" + fee + ")", sizes.fee(fee), plain.fee(fee));
                break;
            case 4:
                same("step(" + p + ", " + l + ", " + b + ")", sizes.step(p, l, b), plain.step(p, l, b));
                break;
            case 5:
                same("box(" + r + ", " + p + ", " + l + ")", sizes.box(r, p, l), plain.box(r, p, l));
                break;
            default:
                same("way(" + w + ", " + p + ", " + l + ")", sizes.way(w, p, l), plain.way(w, p, l));
        }
    }

    private void callLearnt() {
        int p = person();
        int other = person();
        int l = last();
        int size = size();
        same("print(" + l + ")", sizes.print(l), plain.print(l));
        same("alike(" + p + ", " + other + ")", sizes.alike(p, other), plain.alike(p, other));
        same("strangers(" + p + ", " + l + ")", sizes.strangers(p, l), plain.strangers(p, l));
        same("hold(" + l + ", " + size + ")", sizes.hold(l, size), plain.hold(l, size));
        same("truth(" + l + ")", sizes.truth(l), plain.truth(l));
        if (oneOf(12)) {
            same("year()", sizes.year(), plain.year());
        }
    }

    private void callRest() {
        int what = below(13) - 1;
        int k = below(9) - 1;
        int which = below(6) - 1;
        switch (below(7)) {
            case 0:
                same("has(" + what + ")", sizes.has(what), plain.has(what));
                break;
            case 1:
                int kind = below(5) - 1;
                same("letter " + kind + " " + which + " " + k, sizes.letter(kind, which, k),
                        plain.letter(kind, which, k));
                break;
            case 2:
                readRule(oneOf(9) ? below(7) - 2 : below(3), cut(oneOf(4) ? spoilt(ruleText(2)) : ruleText(1 + k / 2)));
                break;
            case 3:
                addPerson();
                break;
            case 4:
                same("image()", sizes.image(), plain.image());
                int at = below(plain.picture.size() + 2) - 1;
                same("octet(" + at + ")", sizes.octet(at), plain.octet(at));
                at = plain.picture.size() - 1;
                same("octet(" + at + ")", sizes.octet(at), plain.octet(at));
                break;
            case 5:
                if (oneOf(3)) {
                    readImage();
                }
                break;
            default:
                look(person());
        }
    }

    /** An image as it was written last, some of it spoilt, mostly with the byte at its end put right. */
    private void readImage() {
        List<Integer> bytes = new ArrayList<>(plain.picture);
        if (oneOf(2) && !bytes.isEmpty()) {
            int at = below(bytes.size());
            int by = oneOf(2) ? 1 : below(256);
            bytes.set(at, bytes.get(at) + by & 255);
            int to = Math.min(bytes.size() - 1, at + 2);
            if (oneOf(2)) {
                bytes.set(to, bytes.get(to) - by & 255);
            }
            if (oneOf(9)) {
                bytes.remove(at);
            }
            if (!oneOf(4) && !bytes.isEmpty()) {
                bytes.remove(bytes.size() - 1);
                bytes.add(PlainModel.check(bytes));
            }
        }
        byte[] raw = new byte[bytes.size()];
        for (int i = 0; i < raw.length; i++) {
            raw[i] = (byte) (int) bytes.get(i);
        }
        tape(raw);
        same("on() of " + bytes, sizes.on(), plain.on());
        for (int what = 0; what <= 10; what++) {
            same("has(" + what + ")", sizes.has(what), plain.has(what));
        }
        look(person());
    }
}
