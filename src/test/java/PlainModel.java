import java.math.BigInteger;
import java.util.ArrayList;
import java.util.Arrays;
import java.util.HashMap;
import java.util.HashSet;
import java.util.List;
import java.util.Map;
import java.util.Set;
import java.util.TreeMap;
import java.util.function.BooleanSupplier;
import java.util.function.IntSupplier;

/**
 * The document once more, word by word and without any care for speed or room, written apart from
 * the program: AgainstPlainTest lets both answer the same calls.
 */
final class PlainModel {
    static final int NONE = -1;
    static final int NOTHING = -1000000000;

    // ---------------------------------------------------------------- data

    static final class Shoe {
        String name;
        int price;
        int[] thought;
        Integer run;
    }

    static final class Kind {
        String name;
        int[] off;
        int wear;
        int grow;
        int leave;
    }

    static final class Ask {
        String name;
        int[] yes;
    }

    static final class Human {
        int sort;
        int size;
        int[] thought;
        Integer foot;
        int came;
        int whole;
        int last = NONE;
        List<Integer> box = new ArrayList<>();
        List<int[]> kept = new ArrayList<>();
    }

    static final class Pair {
        int last;
        int size;
        int day;
    }

    static final class Shop {
        List<Shoe> lasts = new ArrayList<>();
        List<Kind> sorts = new ArrayList<>();
        List<Ask> asks = new ArrayList<>();
        int[] keeps = new int[5];
        int fare;
        int wipe;
        int fee;
        Map<String, Integer> stock = new HashMap<>();
        int statements;
    }

    static final class Send {
        Set<Integer> sizes = new HashSet<>();
        BooleanSupplier test;
    }

    /** A fault found along a text. */
    static final class Fault extends RuntimeException {
        final int what;
        final int place;

        Fault(int what, int place) {
            this.what = what;
            this.place = place;
        }
    }

    Shop shop = new Shop();
    Map<Integer, List<Send>> rules = new TreeMap<>();
    List<Human> people = new ArrayList<>();
    List<Pair> coming = new ArrayList<>();
    List<Integer> tape = new ArrayList<>();
    List<Integer> picture = new ArrayList<>();
    int day;
    int money;
    int fault;
    int place = NONE;
    BigInteger seed = BigInteger.ZERO;
    Human factPerson;
    Shoe factLast;

    // ---------------------------------------------------------------- texts

    static final Set<String> OWN = new HashSet<>(Arrays.asList("last", "price", "runs", "sort", "off",
            "wear", "grow", "leave", "keeps", "fare", "wipe", "fee", "stock", "ask", "send", "down",
            "below", "same", "above", "up", "when", "or", "and", "not", "all", "kind", "tried", "less",
            "more", "small", "large", "cost", "charge", "min", "max"));

    static final class Text {
        final String text;
        int at;

        Text(String text) {
            this.text = text;
        }

        char sign(int i) {
            return i < text.length() ? text.charAt(i) : 0;
        }

        boolean letter(int i) {
            return i < text.length() && sign(i) >= 'a' && sign(i) <= 'z';
        }

        boolean digit(int i) {
            return i < text.length() && sign(i) >= '0' && sign(i) <= '9';
        }

        void blanks() {
            while (at < text.length() && (sign(at) == 10 || sign(at) == 32)) {
                at++;
            }
        }

        boolean end() {
            blanks();
            return at >= text.length();
        }

        /** The whole word or number here, or one sign; empty at the end. */
        String peek() {
            blanks();
            if (at >= text.length()) {
                return "";
            }
            int to = at;
            if (letter(at)) {
                while (letter(to)) {
                    to++;
                }
            } else if (digit(at)) {
                while (digit(to)) {
                    to++;
                }
            } else {
                to++;
            }
            boolean glued = at > 0 && (letter(at) && digit(at - 1) || digit(at) && letter(at - 1));
            return glued ? "?" : text.substring(at, to);
        }

        boolean is(String token) {
            return peek().equals(token);
        }

        void take(String token) {
            if (!is(token)) {
                throw new Fault(1, at);
            }
            at += token.length();
        }

        boolean took(String token) {
            if (is(token)) {
                at += token.length();
                return true;
            }
            return false;
        }

        int number(int from, int to) {
            String token = peek();
            if (!token.matches("[0-9]+")) {
                throw new Fault(1, at);
            }
            if (token.length() > 4) {
                throw new Fault(1, at + 4);
            }
            int number = Integer.parseInt(token);
            if (number < from || number > to) {
                throw new Fault(2, at);
            }
            at += token.length();
            return number;
        }

        String name() {
            String token = peek();
            if (!token.matches("[a-z]+") || OWN.contains(token)) {
                throw new Fault(1, at);
            }
            if (token.length() > 6) {
                throw new Fault(1, at + 6);
            }
            at += token.length();
            return token;
        }
    }

    static Shop readShop(String string) {
        Text text = new Text(string);
        Shop shop = new Shop();
        Set<String> names = new HashSet<>();
        while (!text.end()) {
            if (shop.statements == 100) {
                throw new Fault(5, text.at);
            }
            int first = text.at;
            if (text.took("last")) {
                many(shop.lasts.size(), 8, first);
                Shoe shoe = new Shoe();
                shoe.name = newName(text, names);
                text.take("price");
                shoe.price = text.number(0, 9999);
                text.take("runs");
                shoe.thought = chances(text, 3);
                shop.lasts.add(shoe);
            } else if (text.took("sort")) {
                many(shop.sorts.size(), 4, first);
                Kind kind = new Kind();
                kind.name = newName(text, names);
                text.take("off");
                kind.off = chances(text, 5);
                text.take("wear");
                kind.wear = text.number(0, 100);
                text.take("grow");
                kind.grow = text.number(0, 100);
                text.take("leave");
                kind.leave = text.number(0, 100);
                shop.sorts.add(kind);
            } else if (text.took("keeps")) {
                shop.keeps = five(text);
            } else if (text.took("fare")) {
                shop.fare = text.number(0, 9999);
            } else if (text.took("wipe")) {
                shop.wipe = text.number(0, 9999);
            } else if (text.took("fee")) {
                shop.fee = text.number(0, 99);
            } else if (text.took("stock")) {
                text.blanks();
                int place = text.at;
                String name = text.name();
                int last = NONE;
                for (int i = 0; i < shop.lasts.size(); i++) {
                    if (shop.lasts.get(i).name.equals(name)) {
                        last = i;
                    }
                }
                if (last == NONE) {
                    throw new Fault(3, place);
                }
                int size = text.number(30, 49);
                shop.stock.put(last + " " + size, text.number(0, 99));
            } else if (text.took("ask")) {
                many(shop.asks.size(), 6, first);
                Ask ask = new Ask();
                ask.name = newName(text, names);
                ask.yes = five(text);
                shop.asks.add(ask);
            } else {
                throw new Fault(1, first);
            }
            text.take(";");
            shop.statements++;
        }
        return shop;
    }

    static void many(int have, int most, int place) {
        if (have >= most) {
            throw new Fault(5, place);
        }
    }

    static String newName(Text text, Set<String> names) {
        text.blanks();
        int place = text.at;
        String name = text.name();
        if (!names.add(name)) {
            throw new Fault(3, place);
        }
        return name;
    }

    static int[] chances(Text text, int count) {
        int[] row = new int[count];
        int sum = 0;
        for (int i = 0; i < count; i++) {
            text.blanks();
            int place = text.at;
            row[i] = text.number(0, 100);
            sum += row[i];
            if (sum > 100) {
                throw new Fault(2, place);
            }
        }
        row[count == 3 ? 1 : 2] += 100 - sum;
        for (int i = 0; i < count; i++) {
            row[i] *= 100;
        }
        return row;
    }

    static int[] five(Text text) {
        int[] row = new int[5];
        for (int i = 0; i < 5; i++) {
            row[i] = text.number(0, 100);
        }
        return row;
    }

    static final List<String> SIZE_WORDS = Arrays.asList("down", "below", "same", "above", "up");

    List<Send> readRule(String string) {
        Text text = new Text(string);
        List<Send> sends = new ArrayList<>();
        while (!text.end()) {
            if (sends.size() == 40) {
                throw new Fault(5, text.at);
            }
            text.take("send");
            Send send = new Send();
            while (SIZE_WORDS.contains(text.peek())) {
                if (send.sizes.size() == 3) {
                    throw new Fault(5, text.at);
                }
                if (!send.sizes.add(SIZE_WORDS.indexOf(text.peek()) - 2)) {
                    throw new Fault(3, text.at);
                }
                text.take(text.peek());
            }
            if (send.sizes.isEmpty()) {
                throw new Fault(1, text.at);
            }
            text.take("when");
            send.test = test(text, 0);
            text.take(";");
            sends.add(send);
        }
        return sends;
    }

    static int deeper(Text text, int open) {
        if (open == 6) {
            throw new Fault(4, text.at);
        }
        return open + 1;
    }

    BooleanSupplier test(Text text, int open) {
        List<BooleanSupplier> all = new ArrayList<>();
        do {
            all.add(both(text, open));
        } while (text.took("or"));
        return () -> all.stream().anyMatch(BooleanSupplier::getAsBoolean);
    }

    BooleanSupplier both(Text text, int open) {
        List<BooleanSupplier> all = new ArrayList<>();
        do {
            all.add(fact(text, open));
        } while (text.took("and"));
        return () -> all.stream().allMatch(BooleanSupplier::getAsBoolean);
    }

    BooleanSupplier fact(Text text, int open) {
        if (text.is("not")) {
            int inner = deeper(text, open);
            text.take("not");
            BooleanSupplier fact = fact(text, inner);
            return () -> !fact.getAsBoolean();
        }
        if (text.is("[")) {
            int inner = deeper(text, open);
            text.take("[");
            BooleanSupplier test = test(text, inner);
            text.take("]");
            return test;
        }
        if (text.took("all")) {
            return () -> true;
        }
        IntSupplier left = sum(text, open);
        String sign = text.peek();
        if (!sign.equals("<") && !sign.equals(">") && !sign.equals("=")) {
            throw new Fault(1, text.at);
        }
        text.take(sign);
        IntSupplier right = sum(text, open);
        return () -> {
            int compared = Integer.compare(left.getAsInt(), right.getAsInt());
            return sign.equals("<") ? compared < 0 : sign.equals(">") ? compared > 0 : compared == 0;
        };
    }

    static int within(long number) {
        return number > 1000000 ? 1000000 : number < -1000000 ? -1000000 : (int) number;
    }

    IntSupplier sum(Text text, int open) {
        IntSupplier sum = product(text, open);
        while (text.is("+") || text.is("-")) {
            boolean plus = text.is("+");
            text.take(text.peek());
            IntSupplier left = sum;
            IntSupplier right = product(text, open);
            sum = () -> within(plus ? (long) left.getAsInt() + right.getAsInt()
                    : (long) left.getAsInt() - right.getAsInt());
        }
        return sum;
    }

    IntSupplier product(Text text, int open) {
        IntSupplier product = part(text, open);
        while (text.is("*") || text.is("/")) {
            boolean times = text.is("*");
            text.take(text.peek());
            IntSupplier left = product;
            IntSupplier right = part(text, open);
            product = () -> {
                long a = left.getAsInt();
                long b = right.getAsInt();
                return times ? within(a * b) : b == 0 ? 0 : (int) Math.floor((double) a / b);
            };
        }
        return product;
    }

    IntSupplier part(Text text, int open) {
        String token = text.peek();
        if (token.matches("[0-9]+")) {
            int number = text.number(0, 9999);
            return () -> number;
        }
        if (token.equals("(")) {
            int inner = deeper(text, open);
            text.take("(");
            IntSupplier sum = sum(text, inner);
            text.take(")");
            return sum;
        }
        if (token.equals("min") || token.equals("max")) {
            text.take(token);
            if (!text.is("(")) {
                throw new Fault(1, text.at);
            }
            int inner = deeper(text, open);
            text.take("(");
            IntSupplier first = sum(text, inner);
            text.take(",");
            IntSupplier second = sum(text, inner);
            text.take(")");
            return token.equals("min") ? () -> Math.min(first.getAsInt(), second.getAsInt())
                    : () -> Math.max(first.getAsInt(), second.getAsInt());
        }
        IntSupplier fact = factNamed(token);
        if (fact == null) {
            throw new Fault(1, text.at);
        }
        text.take(token);
        return fact;
    }

    IntSupplier factNamed(String word) {
        switch (word) {
            case "kind":
                return () -> factPerson.sort;
            case "tried":
                return () -> factPerson.came;
            case "less":
                return () -> factPerson.thought[0] + factPerson.thought[1];
            case "more":
                return () -> factPerson.thought[3] + factPerson.thought[4];
            case "small":
                return () -> factLast.thought[0];
            case "large":
                return () -> factLast.thought[2];
            case "cost":
                return () -> factLast.price;
            case "charge":
                return () -> shop.fee;
            default:
                return null;
        }
    }

    // ---------------------------------------------------------------- the calls

    int feed(int a, int b, int c, int d, int e) {
        if (tape.size() + 20 > 1600) {
            return NONE;
        }
        for (int number : new int[] {a, b, c, d, e}) {
            for (int i = 3; i >= 0; i--) {
                tape.add(number >>> 8 * i & 255);
            }
        }
        return tape.size();
    }

    boolean end(int n) {
        if (n < 0 || n > tape.size()) {
            return false;
        }
        tape = new ArrayList<>(tape.subList(0, n));
        return true;
    }

    String tapeText() {
        StringBuilder text = new StringBuilder();
        for (int octet : tape) {
            text.append((char) octet);
        }
        tape.clear();
        return text.toString();
    }

    int house() {
        try {
            shop = readShop(tapeText());
        } catch (Fault found) {
            fault = found.what;
            place = found.place;
            return NONE;
        }
        fault = 0;
        place = NONE;
        people.clear();
        coming.clear();
        day = 0;
        money = 0;
        return shop.statements;
    }

    int rule(int k) {
        String text = tapeText();
        if (k < 0 || k > 2) {
            return -2;
        }
        try {
            rules.put(k, readRule(text));
        } catch (Fault found) {
            fault = found.what;
            place = found.place;
            return NONE;
        }
        fault = 0;
        place = NONE;
        return rules.get(k).size();
    }

    int fault(int what) {
        return what == 0 ? fault : what == 1 ? place : NONE;
    }

    int has(int what) {
        int out = 0;
        for (Human human : people) {
            out += human.box.isEmpty() ? 0 : 1;
        }
        int[] all = {shop.lasts.size(), shop.sorts.size(), shop.asks.size(), rules.size(), people.size(),
            shop.fare, shop.wipe, shop.fee, out, day, coming.size()};
        return what >= 0 && what < all.length ? all[what] : NONE;
    }

    int letter(int kind, int which, int k) {
        List<String> names = new ArrayList<>();
        if (kind == 0) {
            shop.lasts.forEach(one -> names.add(one.name));
        } else if (kind == 1) {
            shop.sorts.forEach(one -> names.add(one.name));
        } else if (kind == 2) {
            shop.asks.forEach(one -> names.add(one.name));
        }
        if (which < 0 || which >= names.size() || k < 0 || k > 5) {
            return NONE;
        }
        String name = names.get(which);
        return k < name.length() ? name.charAt(k) - 96 : 0;
    }

    boolean isPerson(int number) {
        return number >= 0 && number < people.size();
    }

    boolean isLast(int number) {
        return number >= 0 && number < shop.lasts.size();
    }

    boolean isAsk(int number) {
        return number >= 0 && number < shop.asks.size();
    }

    static boolean isSize(int size) {
        return size >= 30 && size <= 49;
    }

    int person(int sort, int size) {
        if (sort < 0 || sort >= shop.sorts.size() || !isSize(size) || people.size() == 20) {
            return NONE;
        }
        Human human = new Human();
        human.sort = sort;
        human.size = size;
        human.thought = shop.sorts.get(sort).off.clone();
        people.add(human);
        return people.size() - 1;
    }

    int foot(int person, int d) {
        return isPerson(person) && d >= -2 && d <= 2 ? people.get(person).thought[d + 2] : NONE;
    }

    int last(int last, int run) {
        return isLast(last) && run >= -1 && run <= 1 ? shop.lasts.get(last).thought[run + 1] : NONE;
    }

    int who(int person, int what) {
        if (!isPerson(person)) {
            return NONE;
        }
        Human human = people.get(person);
        switch (what) {
            case 0:
                return human.sort;
            case 1:
                return human.size;
            case 2:
                return human.came;
            case 3:
                return human.whole;
            case 4:
                return human.last;
            case 5:
                return bitsOf(human.box);
            case 6:
                return human.foot == null ? NONE : human.foot + 2;
            case 7:
                return human.whole >= 3 && human.kept.isEmpty() ? 1 : 0;
            default:
                return NONE;
        }
    }

    static int bitsOf(List<Integer> box) {
        int bits = 0;
        for (int e : box) {
            bits += new int[] {1, 2, 4, 8, 16}[e + 2];
        }
        return bits;
    }

    /** The sizes (e) of a box; null when it can't be. */
    List<Integer> boxOf(int person, int last, int bits) {
        if (!isPerson(person) || !isLast(last) || bits < 1 || bits > 31) {
            return null;
        }
        List<Integer> box = new ArrayList<>();
        for (int e = -2; e <= 2; e++) {
            if ((bits / new int[] {1, 2, 4, 8, 16}[e + 2]) % 2 == 1) {
                if (!isSize(people.get(person).size + e)) {
                    return null;
                }
                box.add(e);
            }
        }
        return box.size() > 3 ? null : box;
    }

    int pleases(int e, int r, int d) {
        int large = e + r - d;
        return Math.abs(large) > 2 ? 0 : shop.keeps[large + 2];
    }

    int bestOf(List<Integer> box, int r, int d) {
        int best = box.get(0);
        for (int e : box) {
            if (pleases(e, r, d) > pleases(best, r, d)) {
                best = e;
            }
        }
        return best;
    }

    int chance(Human human, List<Integer> box, int r, int d) {
        return pleases(bestOf(box, r, d), r, d) * (100 - shop.sorts.get(human.sort).wear);
    }

    /** The weight of what came by one foot and one run. */
    BigInteger weight(Human human, int[] feet, Shoe shoe, List<Integer> box, int e, int d, int r) {
        int chance = chance(human, box, r, d);
        int part = e == 3 ? 10000 - chance : bestOf(box, r, d) == e ? chance : 0;
        return BigInteger.valueOf(feet[d + 2]).multiply(BigInteger.valueOf(shoe.thought[r + 1]))
                .multiply(BigInteger.valueOf(part));
    }

    BigInteger[][] weights(Human human, int[] feet, Shoe shoe, List<Integer> box, int e) {
        BigInteger[] byFoot = new BigInteger[5];
        BigInteger[] byRun = new BigInteger[3];
        Arrays.fill(byFoot, BigInteger.ZERO);
        Arrays.fill(byRun, BigInteger.ZERO);
        for (int d = -2; d <= 2; d++) {
            for (int r = -1; r <= 1; r++) {
                BigInteger weight = weight(human, feet, shoe, box, e, d, r);
                byFoot[d + 2] = byFoot[d + 2].add(weight);
                byRun[r + 1] = byRun[r + 1].add(weight);
            }
        }
        return new BigInteger[][] {byFoot, byRun};
    }

    static BigInteger together(BigInteger[] row) {
        BigInteger sum = BigInteger.ZERO;
        for (BigInteger one : row) {
            sum = sum.add(one);
        }
        return sum;
    }

    static int[] learnt(BigInteger[] row) {
        BigInteger all = together(row);
        int[] learnt = new int[row.length];
        for (int i = 0; i < row.length; i++) {
            learnt[i] = row[i].multiply(BigInteger.valueOf(10000)).divide(all).intValueExact();
        }
        fill(learnt);
        return learnt;
    }

    static void fill(int[] row) {
        int greatest = Arrays.stream(row).max().getAsInt();
        int lacks = 10000 - Arrays.stream(row).sum();
        for (int i = 0; i < row.length; i++) {
            if (row[i] == greatest) {
                row[i] += lacks;
                return;
            }
        }
    }

    long keeps(int person, int last, int bits, int e) {
        List<Integer> box = boxOf(person, last, bits);
        if (box == null || e != 3 && !box.contains(e)) {
            return -1;
        }
        Human human = people.get(person);
        return together(weights(human, human.thought, shop.lasts.get(last), box, e)[0]).longValueExact();
    }

    int after(int person, int last, int bits, int e, int d) {
        if (d < -2 || d > 2 || keeps(person, last, bits, e) <= 0) {
            return NONE;
        }
        Human human = people.get(person);
        return learnt(weights(human, human.thought, shop.lasts.get(last), boxOf(person, last, bits), e)[0])[d + 2];
    }

    int teaches(int person, int last, int bits, int e, int run) {
        if (run < -1 || run > 1 || keeps(person, last, bits, e) <= 0) {
            return NONE;
        }
        Human human = people.get(person);
        return learnt(weights(human, human.thought, shop.lasts.get(last), boxOf(person, last, bits), e)[1])[run + 1];
    }

    int moneyOf(Shoe shoe, List<Integer> box, int e, int fee) {
        int pairs = box.size();
        if (e == 3) {
            return fee - 2 * shop.fare - pairs * shop.wipe;
        }
        int sum = shoe.price - shop.fare;
        if (pairs > 1) {
            sum -= shop.fare + (pairs - 1) * shop.wipe;
        }
        return sum;
    }

    static BigInteger floor(BigInteger a, BigInteger b) {
        BigInteger[] both = a.divideAndRemainder(b);
        return both[1].signum() < 0 ? both[0].subtract(BigInteger.ONE) : both[0];
    }

    int meanOf(Human human, int[] feet, int last, List<Integer> box, int fee) {
        Shoe shoe = shop.lasts.get(last);
        BigInteger sum = BigInteger.ZERO;
        List<Integer> outcomes = new ArrayList<>(box);
        outcomes.add(3);
        for (int e : outcomes) {
            BigInteger weight = together(weights(human, feet, shoe, box, e)[0]);
            sum = sum.add(weight.multiply(BigInteger.valueOf(moneyOf(shoe, box, e, fee))));
        }
        return floor(sum.multiply(BigInteger.valueOf(100)), BigInteger.TEN.pow(12)).intValueExact();
    }

    int orderedOf(Human human, int mean, int fee) {
        int share = Math.max(0, 100 - shop.sorts.get(human.sort).leave * fee);
        return floor(BigInteger.valueOf(mean).multiply(BigInteger.valueOf(share)), BigInteger.valueOf(100))
                .intValueExact();
    }

    int mean(int person, int last, int bits, boolean ordered) {
        List<Integer> box = boxOf(person, last, bits);
        if (box == null) {
            return NOTHING;
        }
        Human human = people.get(person);
        int mean = meanOf(human, human.thought, last, box, shop.fee);
        return ordered ? orderedOf(human, mean, shop.fee) : mean;
    }

    int stocked(int last, int size) {
        return shop.stock.getOrDefault(last + " " + size, 0);
    }

    boolean inStock(int last, Human human, List<Integer> box) {
        for (int e : box) {
            if (stocked(last, human.size + e) < 1) {
                return false;
            }
        }
        return true;
    }

    /** Bits and mean; null without. */
    int[] bestBox(int person, int[] feet, int last) {
        Human human = people.get(person);
        List<int[]> all = new ArrayList<>();
        for (int bits = 1; bits < 32; bits++) {
            List<Integer> box = boxOf(person, last, bits);
            if (box != null && inStock(last, human, box)) {
                all.add(new int[] {bits, meanOf(human, feet, last, box, shop.fee), box.size()});
            }
        }
        all.sort((a, b) -> a[1] != b[1] ? Integer.compare(b[1], a[1])
                : a[2] != b[2] ? Integer.compare(a[2], b[2]) : Integer.compare(a[0], b[0]));
        return all.isEmpty() ? null : all.get(0);
    }

    int best(int person, int last, boolean mean) {
        if (!isPerson(person) || !isLast(last)) {
            return mean ? NOTHING : NONE;
        }
        int[] box = bestBox(person, people.get(person).thought, last);
        return box == null ? mean ? NOTHING : 0 : mean ? box[1] : box[0];
    }

    int box(int rule, int person, int last) {
        if (!rules.containsKey(rule) || !isPerson(person) || !isLast(last)) {
            return NONE;
        }
        factPerson = people.get(person);
        factLast = shop.lasts.get(last);
        for (Send send : rules.get(rule)) {
            if (send.test.getAsBoolean()) {
                List<Integer> box = new ArrayList<>();
                for (int e : send.sizes) {
                    if (isSize(factPerson.size + e)) {
                        box.add(e);
                    }
                }
                return bitsOf(box);
            }
        }
        return 0;
    }

    int wayBits(int way, int person, int last) {
        if (way < 0 || way > 5 || !isPerson(person) || !isLast(last)) {
            return 0;
        }
        switch (way) {
            case 0:
                return 4;
            case 1:
                return people.get(person).size == 49 ? 4 : 12;
            case 2:
                return best(person, last, false);
            default:
                return Math.max(0, box(way - 3, person, last));
        }
    }

    int way(int way, int person, int last) {
        int bits = wayBits(way, person, last);
        return bits == 0 ? NOTHING : mean(person, last, bits, true);
    }

    int send(int person, int last, int bits) {
        List<Integer> box = boxOf(person, last, bits);
        if (box == null || !people.get(person).box.isEmpty() || !inStock(last, people.get(person), box)) {
            return NONE;
        }
        Human human = people.get(person);
        for (int e : box) {
            shop.stock.merge(last + " " + (human.size + e), -1, Integer::sum);
        }
        human.box = box;
        human.last = last;
        return has(8);
    }

    void comesBack(Human human, int e, boolean learn) {
        Shoe shoe = shop.lasts.get(human.last);
        if (learn) {
            BigInteger[][] rows = weights(human, human.thought, shoe, human.box, e);
            human.thought = learnt(rows[0]);
            shoe.thought = learnt(rows[1]);
        }
        money += moneyOf(shoe, human.box, e, shop.fee);
        human.came++;
        for (int pair : human.box) {
            if (pair == e) {
                human.kept.add(new int[] {human.last, human.size + e});
            } else {
                Pair other = new Pair();
                other.last = human.last;
                other.size = human.size + pair;
                other.day = day + 7;
                coming.add(other);
            }
        }
        if (e == 3) {
            human.whole++;
        }
        human.box = new ArrayList<>();
        human.last = NONE;
    }

    boolean back(int person, int e) {
        if (!isPerson(person) || people.get(person).box.isEmpty()) {
            return false;
        }
        Human human = people.get(person);
        if (keeps(person, human.last, bitsOf(human.box), e) <= 0) {
            return false;
        }
        comesBack(human, e, true);
        return true;
    }

    int days(int n) {
        if (n < 1 || n > 100) {
            return NONE;
        }
        day += n;
        for (Pair pair : new ArrayList<>(coming)) {
            if (pair.day <= day) {
                coming.remove(pair);
                shop.stock.merge(pair.last + " " + pair.size, 1, Integer::sum);
            }
        }
        return day;
    }

    int stock(int last, int size) {
        return isLast(last) && isSize(size) ? stocked(last, size) : NONE;
    }

    int earned() {
        return money;
    }

    BigInteger[] answered(int[] feet, int[] chances, boolean yes) {
        BigInteger[] row = new BigInteger[5];
        for (int i = 0; i < 5; i++) {
            row[i] = BigInteger.valueOf((long) feet[i] * (yes ? chances[i] : 100 - chances[i]));
        }
        return row;
    }

    boolean answer(int person, int question, boolean yes) {
        if (!isPerson(person) || !isAsk(question)) {
            return false;
        }
        BigInteger[] row = answered(people.get(person).thought, shop.asks.get(question).yes, yes);
        if (together(row).signum() == 0) {
            return false;
        }
        people.get(person).thought = learnt(row);
        return true;
    }

    int worth(int question, int person, int last) {
        if (!isAsk(question) || !isPerson(person) || !isLast(last)) {
            return NOTHING;
        }
        int[] feet = people.get(person).thought;
        int[] now = bestBox(person, feet, last);
        if (now == null) {
            return NOTHING;
        }
        BigInteger sum = BigInteger.ZERO;
        for (boolean yes : new boolean[] {true, false}) {
            BigInteger[] row = answered(feet, shop.asks.get(question).yes, yes);
            if (together(row).signum() > 0) {
                int mean = bestBox(person, learnt(row), last)[1];
                sum = sum.add(together(row).multiply(BigInteger.valueOf(mean)));
            }
        }
        return floor(sum, BigInteger.valueOf(1000000)).intValueExact() - now[1];
    }

    int question(int person, int last) {
        int best = NONE;
        for (int i = 0; i < shop.asks.size(); i++) {
            int worth = worth(i, person, last);
            if (worth != NOTHING && (best == NONE || worth > worth(best, person, last))) {
                best = i;
            }
        }
        return best;
    }

    int fee(int fee) {
        if (fee < 0 || fee > 99) {
            return NONE;
        }
        int was = shop.fee;
        shop.fee = fee;
        return was;
    }

    int step(int person, int last, int bits) {
        List<Integer> box = boxOf(person, last, bits);
        if (box == null) {
            return NONE;
        }
        Human human = people.get(person);
        int best = 0;
        int bestMean = 0;
        for (int fee = 0; fee <= 99; fee++) {
            int mean = orderedOf(human, meanOf(human, human.thought, last, box, fee), fee);
            if (fee == 0 || mean > bestMean) {
                best = fee;
                bestMean = mean;
            }
        }
        return best;
    }

    int print(int last) {
        if (!isLast(last)) {
            return -2;
        }
        int[] thought = shop.lasts.get(last).thought;
        return thought[0] >= 6000 ? -1 : thought[2] >= 6000 ? 1 : 0;
    }

    int alike(int first, int second) {
        if (!isPerson(first) || !isPerson(second) || first == second) {
            return NONE;
        }
        for (int[] one : people.get(first).kept) {
            for (int[] other : people.get(second).kept) {
                if (Arrays.equals(one, other)) {
                    return 1;
                }
            }
        }
        return 0;
    }

    int strangers(int person, int last) {
        if (!isPerson(person) || !isLast(last)) {
            return NONE;
        }
        TreeMap<Integer, Integer> counts = new TreeMap<>();
        for (int i = 0; i < people.size(); i++) {
            if (alike(person, i) == 1) {
                for (int[] kept : people.get(i).kept) {
                    if (kept[0] == last) {
                        counts.merge(kept[1], 1, Integer::sum);
                    }
                }
            }
        }
        int size = NONE;
        for (Map.Entry<Integer, Integer> entry : counts.entrySet()) {
            if (size == NONE || entry.getValue() > counts.get(size)) {
                size = entry.getKey();
            }
        }
        return size;
    }

    int hold(int last, int size) {
        if (!isLast(last) || !isSize(size) || stocked(last, size) != 1) {
            return NONE;
        }
        int best = NONE;
        int bestMean = 0;
        for (int i = 0; i < people.size(); i++) {
            Human human = people.get(i);
            int e = size - human.size;
            if (human.box.isEmpty() && e >= -2 && e <= 2) {
                int mean = meanOf(human, human.thought, last, List.of(e), shop.fee);
                if (best == NONE || mean > bestMean) {
                    best = i;
                    bestMean = mean;
                }
            }
        }
        return best;
    }

    int year() {
        for (Human human : people) {
            int grow = shop.sorts.get(human.sort).grow;
            int[] was = human.thought.clone();
            for (int i = 0; i < 5; i++) {
                int own = i == 4 ? was[4] : was[i] * (100 - grow) / 100;
                int fromBelow = i == 0 ? 0 : was[i - 1] * grow / 100;
                human.thought[i] = own + fromBelow;
            }
            fill(human.thought);
        }
        return people.size();
    }

    int drawOf(int n) {
        seed = seed.multiply(BigInteger.valueOf(1103515245)).add(BigInteger.valueOf(12345))
                .mod(BigInteger.TWO.pow(31));
        return seed.divide(BigInteger.valueOf(64)).mod(BigInteger.valueOf(n)).intValueExact();
    }

    int drawnOf(int[] thought) {
        int draw = drawOf(10000);
        int upTo = 0;
        for (int i = 0; i < thought.length; i++) {
            upTo += thought[i];
            if (upTo > draw) {
                return i;
            }
        }
        throw new IllegalStateException("what is thought is not 10000 together");
    }

    int draw(int from) {
        if (from < 0) {
            return NONE;
        }
        seed = BigInteger.valueOf(from);
        int draws = 0;
        for (Shoe shoe : shop.lasts) {
            shoe.run = drawnOf(shoe.thought) - 1;
            draws++;
        }
        for (Human human : people) {
            human.foot = drawnOf(human.thought) - 2;
            draws++;
        }
        return draws;
    }

    int truth(int last) {
        return isLast(last) && shop.lasts.get(last).run != null ? shop.lasts.get(last).run + 1 : NONE;
    }

    int trial(int person, int last, int way) {
        int bits = wayBits(way, person, last);
        if (bits == 0 || people.get(person).foot == null || shop.lasts.get(last).run == null) {
            return NONE;
        }
        if (send(person, last, bits) == NONE) {
            return NONE;
        }
        Human human = people.get(person);
        int run = shop.lasts.get(last).run;
        boolean kept = drawOf(10000) < chance(human, human.box, run, human.foot);
        int e = kept ? bestOf(human.box, run, human.foot) : 3;
        comesBack(human, e, keeps(person, last, bits, e) > 0);
        return e + 2;
    }

    static int check(List<Integer> bytes) {
        int c = 13;
        for (int octet : bytes) {
            c = (5 * c + octet) % 241;
        }
        return c;
    }

    int image() {
        picture = new ArrayList<>();
        picture.add(people.size());
        for (Human human : people) {
            picture.add(human.sort);
            picture.add(human.size);
            for (int number : human.thought) {
                picture.add(number / 256);
                picture.add(number % 256);
            }
        }
        for (Shoe shoe : shop.lasts) {
            for (int number : shoe.thought) {
                picture.add(number / 256);
                picture.add(number % 256);
            }
        }
        picture.add(check(picture));
        return picture.size();
    }

    int octet(int k) {
        return k >= 0 && k < picture.size() ? picture.get(k) : NONE;
    }

    boolean on() {
        List<Integer> bytes = new ArrayList<>(tape);
        tape.clear();
        if (bytes.isEmpty() || bytes.get(0) > 20
                || bytes.size() != 2 + 12 * bytes.get(0) + 6 * shop.lasts.size()) {
            return false;
        }
        int sum = bytes.remove(bytes.size() - 1);
        if (sum != check(bytes)) {
            return false;
        }
        int at = 1;
        List<Human> fresh = new ArrayList<>();
        for (int i = 0; i < bytes.get(0); i++) {
            Human human = new Human();
            human.sort = bytes.get(at);
            human.size = bytes.get(at + 1);
            human.thought = row(bytes, at + 2, 5);
            if (human.sort >= shop.sorts.size() || !isSize(human.size) || human.thought == null) {
                return false;
            }
            fresh.add(human);
            at += 12;
        }
        List<int[]> runs = new ArrayList<>();
        for (int i = 0; i < shop.lasts.size(); i++) {
            runs.add(row(bytes, at, 3));
            if (runs.get(i) == null) {
                return false;
            }
            at += 6;
        }
        for (Human human : people) {
            for (int e : human.box) {
                shop.stock.merge(human.last + " " + (human.size + e), 1, Integer::sum);
            }
        }
        people = fresh;
        for (int i = 0; i < runs.size(); i++) {
            shop.lasts.get(i).thought = runs.get(i);
        }
        return true;
    }

    static int[] row(List<Integer> bytes, int at, int count) {
        int[] row = new int[count];
        int sum = 0;
        for (int i = 0; i < count; i++) {
            row[i] = 256 * bytes.get(at + 2 * i) + bytes.get(at + 2 * i + 1);
            sum += row[i];
        }
        return sum == 10000 ? row : null;
    }
}
