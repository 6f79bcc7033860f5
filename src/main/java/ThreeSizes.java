import java.util.Arrays;

/**
 * A house that sends shoes for trying to people who don't know their feet. What each promise asks
 * stands in the document; the words in capitals there are the plain words here.
 */
public final class ThreeSizes {
    public static final int NONE = -1;
    public static final int NOTHING = -1000000000;

    private static final int TAPE_BYTES = 1600;
    private static final int FEED_BYTES = 20;

    private static final int MOST_LASTS = 8;
    private static final int MOST_SORTS = 4;
    private static final int MOST_QUESTIONS = 6;
    private static final int MOST_PEOPLE = 20;
    private static final int MOST_RULES = 3;
    private static final int MOST_HOUSE_STATEMENTS = 100;
    private static final int MOST_RULE_STATEMENTS = 40;
    private static final int MOST_IN_BOX = 3;
    private static final int MOST_OPEN = 6;

    private static final int FAULT_TEXT = 1;
    private static final int FAULT_NUMBER = 2;
    private static final int FAULT_NAME = 3;
    private static final int FAULT_DEPTH = 4;
    private static final int FAULT_MANY = 5;

    private static final int LEAST_SIZE = 30;
    private static final int GREATEST_SIZE = 49;
    private static final int SIZES = 20;
    private static final int FEET = 5;
    private static final int RUN_COUNT = 3;
    private static final int GREATEST_FEE = 99;
    private static final int GREATEST_N = 9999;
    private static final int WEEK = 7;

    /** What five feet or three runs are thought together. */
    private static final int CERTAIN = 10000;
    /** All weights of a box together. */
    private static final long ALL_WEIGHTS = 1000000000000L;
    /** Weights times money, divided by this, are hundredths of money. */
    private static final long WEIGHTS_OF_HUNDREDTH = 10000000000L;
    /** All weights of an answer, yes and no, together. */
    private static final long ALL_ANSWERS = 1000000L;

    /** Sizes, feet and pairs count from 2 below; a kept pair is told as 0 .. 4, none as 5. */
    private static final int MIDDLE = 2;
    private static final int NO_PAIR = 5;
    private static final int AS_ASKED = 4;
    private static final int AS_ASKED_AND_ABOVE = 12;
    private static final int ALL_BITS = 31;

    private static final int LAST_WAY = 5;
    private static final int WAY_OF_BEST = 2;
    private static final int FIRST_WAY_OF_RULE = 3;

    private final byte[] tape = new byte[TAPE_BYTES];
    private int taped;
    private final Tokens tokens = new Tokens();
    private final HouseReader houseReader = new HouseReader(tokens);
    private final Rules rules = new Rules(tokens);
    /** A house is read into the spare one, so that a fault leaves the present one as it is. */
    private House present = new House();
    private House spare = new House();
    private int faultFound;
    private int faultPlace = NONE;
    private final Person[] people = new Person[MOST_PEOPLE];
    private int peopleCount;
    private int money;
    private long seedNow;
    private final Scales scales = new Scales();
    private final Image picture = new Image();
    /** Rows that calls use again, so that no call makes new ones. */
    private final int[] footRow = new int[FEET];
    private final int[] runRow = new int[RUN_COUNT];
    private final int[] factRow = new int[Rules.FACTS];
    private final int[] sizeRow = new int[SIZES];

    public ThreeSizes() {
        for (int i = 0; i < MOST_PEOPLE; i++) {
            people[i] = new Person();
        }
    }

    // ---- the tape

    public int feed(int a, int b, int c, int d, int e) {
        if (taped + FEED_BYTES > TAPE_BYTES) {
            return NONE;
        }
        putOnTape(a);
        putOnTape(b);
        putOnTape(c);
        putOnTape(d);
        putOnTape(e);
        return taped;
    }

    private void putOnTape(int number) {
        for (int shift = 24; shift >= 0 && taped < TAPE_BYTES; shift -= 8) {
            tape[taped] = (byte) (number >> shift);
            taped++;
        }
    }

    public boolean end(int n) {
        if (n < 0 || n > taped) {
            return false;
        }
        taped = n;
        return true;
    }

    /** The tape goes with every call that reads it: how many bytes it had. */
    private int takeTape() {
        int length = taped;
        taped = 0;
        return length;
    }

    // ---- texts

    public int house() {
        tokens.open(tape, takeTape());
        int statements = houseReader.read(spare);
        keepFault();
        if (statements == NONE) {
            return NONE;
        }
        House old = present;
        present = spare;
        spare = old;
        peopleCount = 0;
        money = 0;
        return statements;
    }

    public int rule(int k) {
        int length = takeTape();
        if (k < 0 || k >= MOST_RULES) {
            return -2;
        }
        tokens.open(tape, length);
        int statements = rules.read(k);
        keepFault();
        return statements;
    }

    private void keepFault() {
        faultFound = tokens.faultFound();
        faultPlace = tokens.faultPlace();
    }

    public int fault(int what) {
        switch (what) {
            case 0:
                return faultFound;
            case 1:
                return faultPlace;
            default:
                return NONE;
        }
    }

    public int has(int what) {
        switch (what) {
            case 0:
                return present.lasts;
            case 1:
                return present.sorts;
            case 2:
                return present.questions;
            case 3:
                return rules.count();
            case 4:
                return peopleCount;
            case 5:
                return present.fare;
            case 6:
                return present.wipe;
            case 7:
                return present.charge;
            case 8:
                return countBoxesOut();
            case 9:
                return present.store.day();
            case 10:
                return present.store.onTheWay();
            default:
                return NONE;
        }
    }

    private int countBoxesOut() {
        int count = 0;
        for (int i = 0; i < peopleCount; i++) {
            if (people[i].hasBox()) {
                count++;
            }
        }
        return count;
    }

    public int letter(int kind, int which, int k) {
        int name = nameOf(kind, which);
        return name == 0 ? NONE : Tokens.letterOf(name, k);
    }

    /** The name as one number; 0 when there is none such. */
    private int nameOf(int kind, int which) {
        if (kind == 0 && isLast(which)) {
            return present.last[which].name;
        }
        if (kind == 1 && isSort(which)) {
            return present.sort[which].name;
        }
        if (kind == 2 && isQuestion(which)) {
            return present.question[which].name;
        }
        return 0;
    }

    // ---- what can be

    private boolean isLast(int number) {
        return number >= 0 && number < present.lasts;
    }

    private boolean isSort(int number) {
        return number >= 0 && number < present.sorts;
    }

    private boolean isQuestion(int number) {
        return number >= 0 && number < present.questions;
    }

    private boolean isPerson(int number) {
        return number >= 0 && number < peopleCount;
    }

    private static boolean isSize(int size) {
        return size >= LEAST_SIZE && size <= GREATEST_SIZE;
    }

    private static boolean isFoot(int d) {
        return d >= -2 && d <= 2;
    }

    private static boolean isRun(int run) {
        return run >= -1 && run <= 1;
    }

    private boolean isBox(int person, int last, int bits) {
        return isPerson(person) && isLast(last) && people[person].canBeSent(bits);
    }

    /** Whether e is a pair of the box, or 3 for none: what may be told of a box that comes back. */
    private static boolean isOutcome(int bits, int e) {
        return e == 3 || isFoot(e) && isInBox(bits, e + MIDDLE);
    }

    private static boolean isInBox(int bits, int pair) {
        return (bits >> pair & 1) == 1;
    }

    private Sort sortOf(Person person) {
        return present.sort[person.sort];
    }

    // ---- people and what is thought

    public int person(int sort, int size) {
        if (!isSort(sort) || !isSize(size) || peopleCount >= MOST_PEOPLE) {
            return NONE;
        }
        people[peopleCount].begin(sort, size, present.sort[sort].feet);
        peopleCount++;
        return peopleCount - 1;
    }

    public int foot(int person, int d) {
        return isPerson(person) && isFoot(d) ? people[person].feet[d + MIDDLE] : NONE;
    }

    public int last(int last, int run) {
        return isLast(last) && isRun(run) ? present.last[last].runs[run + 1] : NONE;
    }

    public int who(int person, int what) {
        if (!isPerson(person)) {
            return NONE;
        }
        Person one = people[person];
        switch (what) {
            case 0:
                return one.sort;
            case 1:
                return one.asked;
            case 2:
                return one.came;
            case 3:
                return one.whole;
            case 4:
                return one.boxLast;
            case 5:
                return one.boxBits;
            case 6:
                return one.trueFoot;
            case 7:
                return one.isSeldomHonest() ? 1 : 0;
            default:
                return NONE;
        }
    }

    // ---- boxes

    public long keeps(int person, int last, int bits, int e) {
        if (!isBox(person, last, bits) || !isOutcome(bits, e)) {
            return -1;
        }
        return weigh(person, last, bits, e + MIDDLE);
    }

    private long weigh(int person, int last, int bits, int outcome) {
        Person one = people[person];
        scales.putOn(present.pleases, sortOf(one).wear);
        return scales.weigh(one.feet, present.last[last].runs, bits, outcome);
    }

    public int after(int person, int last, int bits, int e, int d) {
        if (!isFoot(d) || keeps(person, last, bits, e) <= 0) {
            return NONE;
        }
        Scales.learn(scales.byFoot, footRow);
        return footRow[d + MIDDLE];
    }

    public int teaches(int person, int last, int bits, int e, int run) {
        if (!isRun(run) || keeps(person, last, bits, e) <= 0) {
            return NONE;
        }
        Scales.learn(scales.byRun, runRow);
        return runRow[run + 1];
    }

    public int mean(int person, int last, int bits, boolean ordered) {
        if (!isBox(person, last, bits)) {
            return NOTHING;
        }
        int plain = plainMean(person, last, bits);
        return ordered ? orderedMean(plain, people[person], present.charge) : plain;
    }

    private int plainMean(int person, int last, int bits) {
        layOut(people[person], people[person].feet, last);
        return meanOf(last, bits, present.charge);
    }

    /** Puts on the scales what is thought, ahead of any number of calls of meanOf(). */
    private void layOut(Person one, int[] feet, int last) {
        scales.putOn(present.pleases, sortOf(one).wear);
        scales.layOut(feet, present.last[last].runs);
    }

    private int meanOf(int last, int bits, int charge) {
        long kept = scales.keptOf(bits);
        int pairs = Integer.bitCount(bits);
        long all = kept * present.moneyOfOneKept(last, pairs)
                + (ALL_WEIGHTS - kept) * present.moneyOfNone(pairs, charge);
        return (int) Math.floorDiv(all, WEIGHTS_OF_HUNDREDTH);
    }

    private int orderedMean(int plain, Person one, int charge) {
        int orderers = Math.max(0, 100 - sortOf(one).leave * charge);
        return (int) Math.floorDiv((long) plain * orderers, 100L);
    }

    public int best(int person, int last, boolean mean) {
        if (!isPerson(person) || !isLast(last)) {
            return mean ? NOTHING : NONE;
        }
        Person one = people[person];
        return mean ? bestMean(one, one.feet, last) : bestBits(one, one.feet, last);
    }

    /** 0 when no box is in stock. */
    private int bestBits(Person one, int[] feet, int last) {
        layOut(one, feet, last);
        int found = 0;
        int foundMean = NOTHING;
        for (int bits = 1; bits <= ALL_BITS; bits++) {
            if (one.canBeSent(bits) && present.store.hasAll(last, one.asked, bits)) {
                int mean = meanOf(last, bits, present.charge);
                boolean fewer = Integer.bitCount(bits) < Integer.bitCount(found);
                if (found == 0 || mean > foundMean || mean == foundMean && fewer) {
                    found = bits;
                    foundMean = mean;
                }
            }
        }
        return found;
    }

    private int bestMean(Person one, int[] feet, int last) {
        int bits = bestBits(one, feet, last);
        return bits == 0 ? NOTHING : meanOf(last, bits, present.charge);
    }

    public int box(int rule, int person, int last) {
        if (!rules.isThere(rule) || !isPerson(person) || !isLast(last)) {
            return NONE;
        }
        Person one = people[person];
        tellFacts(one, present.last[last]);
        return one.withinSizes(rules.choose(rule, factRow));
    }

    /** In the order in which the own words kind .. charge stand. */
    private void tellFacts(Person one, Last last) {
        factRow[0] = one.sort;
        factRow[1] = one.came;
        factRow[2] = one.feet[0] + one.feet[1];
        factRow[3] = one.feet[3] + one.feet[4];
        factRow[4] = last.runs[0];
        factRow[5] = last.runs[2];
        factRow[6] = last.price;
        factRow[7] = present.charge;
    }

    public int way(int way, int person, int last) {
        if (!isPerson(person) || !isLast(last)) {
            return NOTHING;
        }
        int bits = bitsOfWay(way, person, last);
        return bits > 0 ? mean(person, last, bits, true) : NOTHING;
    }

    /** 0 or below when the way has no box, or there is no such way. */
    private int bitsOfWay(int way, int person, int last) {
        if (way < 0 || way > LAST_WAY) {
            return NONE;
        }
        if (way >= FIRST_WAY_OF_RULE) {
            return box(way - FIRST_WAY_OF_RULE, person, last);
        }
        Person one = people[person];
        if (way == WAY_OF_BEST) {
            return bestBits(one, one.feet, last);
        }
        return one.withinSizes(way == 0 ? AS_ASKED : AS_ASKED_AND_ABOVE);
    }

    public int send(int person, int last, int bits) {
        if (!isBox(person, last, bits) || !canSendNow(people[person], last, bits)) {
            return NONE;
        }
        sendNow(people[person], last, bits);
        return countBoxesOut();
    }

    private boolean canSendNow(Person one, int last, int bits) {
        return !one.hasBox() && present.store.hasAll(last, one.asked, bits);
    }

    private void sendNow(Person one, int last, int bits) {
        present.store.change(last, one.asked, bits, -1);
        one.boxLast = last;
        one.boxBits = bits;
    }

    public boolean back(int person, int e) {
        if (!isPerson(person) || !people[person].hasBox() || !isOutcome(people[person].boxBits, e)) {
            return false;
        }
        if (!learnFromBox(person, e + MIDDLE)) {
            return false;
        }
        takeBack(people[person], e + MIDDLE);
        return true;
    }

    /** False, changing nothing, when that can't come by what is thought. */
    private boolean learnFromBox(int person, int outcome) {
        Person one = people[person];
        if (weigh(person, one.boxLast, one.boxBits, outcome) <= 0) {
            return false;
        }
        Scales.learn(scales.byFoot, one.feet);
        Scales.learn(scales.byRun, present.last[one.boxLast].runs);
        return true;
    }

    private void takeBack(Person one, int outcome) {
        int last = one.boxLast;
        int bits = one.boxBits;
        int pairs = Integer.bitCount(bits);
        if (outcome == NO_PAIR) {
            money += present.moneyOfNone(pairs, present.charge);
            present.store.expect(last, one.asked, bits);
        } else {
            money += present.moneyOfOneKept(last, pairs);
            present.store.expect(last, one.asked, bits & ~(1 << outcome));
        }
        one.endBox(outcome);
    }

    public int days(int n) {
        if (n < 1 || n > 100) {
            return NONE;
        }
        present.store.pass(n);
        return present.store.day();
    }

    public int stock(int last, int size) {
        return isLast(last) && isSize(size) ? present.store.count(last, size) : NONE;
    }

    public int earned() {
        return money;
    }

    // ---- questions and fees

    public boolean answer(int person, int question, boolean yes) {
        if (!isPerson(person) || !isQuestion(question)) {
            return false;
        }
        Person one = people[person];
        if (scales.weighAnswer(one.feet, present.question[question].yes, yes) <= 0) {
            return false;
        }
        Scales.learn(scales.byFoot, one.feet);
        return true;
    }

    public int worth(int question, int person, int last) {
        if (!isQuestion(question) || !isPerson(person) || !isLast(last)) {
            return NOTHING;
        }
        int now = bestMean(people[person], people[person].feet, last);
        return now == NOTHING ? NOTHING : worthBeside(now, question, person, last);
    }

    private int worthBeside(int now, int question, int person, int last) {
        Person one = people[person];
        long both = 0;
        for (int side = 0; side < 2; side++) {
            long weight = scales.weighAnswer(one.feet, present.question[question].yes, side == 0);
            if (weight > 0) {
                Scales.learn(scales.byFoot, footRow);
                both += weight * bestMean(one, footRow, last);
            }
        }
        return (int) (Math.floorDiv(both, ALL_ANSWERS) - now);
    }

    public int question(int person, int last) {
        if (!isPerson(person) || !isLast(last)) {
            return NONE;
        }
        int now = bestMean(people[person], people[person].feet, last);
        if (now == NOTHING) {
            return NONE;
        }
        int found = NONE;
        int foundWorth = NOTHING;
        for (int i = 0; i < present.questions; i++) {
            int worth = worthBeside(now, i, person, last);
            if (found == NONE || worth > foundWorth) {
                found = i;
                foundWorth = worth;
            }
        }
        return found;
    }

    public int fee(int fee) {
        if (fee < 0 || fee > GREATEST_FEE) {
            return NONE;
        }
        int old = present.charge;
        present.charge = fee;
        return old;
    }

    public int step(int person, int last, int bits) {
        if (!isBox(person, last, bits)) {
            return NONE;
        }
        Person one = people[person];
        layOut(one, one.feet, last);
        int found = 0;
        int foundMean = NOTHING;
        for (int charge = 0; charge <= GREATEST_FEE; charge++) {
            int ordered = orderedMean(meanOf(last, bits, charge), one, charge);
            if (ordered > foundMean) {
                found = charge;
                foundMean = ordered;
            }
        }
        return found;
    }

    // ---- what is learnt

    public int print(int last) {
        return isLast(last) ? present.last[last].lean() : -2;
    }

    public int alike(int first, int second) {
        if (!isPerson(first) || !isPerson(second) || first == second) {
            return NONE;
        }
        return people[first].isAlike(people[second]) ? 1 : 0;
    }

    public int strangers(int person, int last) {
        if (!isPerson(person) || !isLast(last)) {
            return NONE;
        }
        Arrays.fill(sizeRow, 0);
        for (int i = 0; i < peopleCount; i++) {
            if (i != person && people[person].isAlike(people[i])) {
                people[i].countKept(last, sizeRow);
            }
        }
        int found = NONE;
        int most = 0;
        for (int i = 0; i < SIZES; i++) {
            if (sizeRow[i] > most) {
                found = LEAST_SIZE + i;
                most = sizeRow[i];
            }
        }
        return found;
    }

    public int hold(int last, int size) {
        if (stock(last, size) != 1) {
            return NONE;
        }
        int found = NONE;
        int foundMean = NOTHING;
        for (int i = 0; i < peopleCount; i++) {
            int pair = size - people[i].asked + MIDDLE;
            if (!people[i].hasBox() && pair >= 0 && pair < FEET) {
                int mean = plainMean(i, last, 1 << pair);
                if (found == NONE || mean > foundMean) {
                    found = i;
                    foundMean = mean;
                }
            }
        }
        return found;
    }

    public int year() {
        for (int i = 0; i < peopleCount; i++) {
            people[i].grow(sortOf(people[i]).grow);
        }
        return peopleCount;
    }

    // ---- the truth

    public int draw(int seed) {
        if (seed < 0) {
            return NONE;
        }
        seedNow = seed;
        for (int i = 0; i < present.lasts; i++) {
            present.last[i].trueRun = drawFrom(present.last[i].runs);
        }
        for (int i = 0; i < peopleCount; i++) {
            people[i].trueFoot = drawFrom(people[i].feet);
        }
        return present.lasts + peopleCount;
    }

    private int drawOfCertain() {
        seedNow = (1103515245L * seedNow + 12345L) % 2147483648L;
        return (int) (seedNow / 64 % CERTAIN);
    }

    private int drawFrom(int[] thought) {
        int drawn = drawOfCertain();
        int sum = 0;
        for (int i = 0; i < thought.length; i++) {
            sum += thought[i];
            if (sum > drawn) {
                return i;
            }
        }
        return thought.length - 1;
    }

    public int truth(int last) {
        return isLast(last) ? present.last[last].trueRun : NONE;
    }

    public int trial(int person, int last, int way) {
        if (!isPerson(person) || !isLast(last) || !hasTruth(person, last)) {
            return NONE;
        }
        int bits = bitsOfWay(way, person, last);
        if (bits <= 0 || !canSendNow(people[person], last, bits)) {
            return NONE;
        }
        sendNow(people[person], last, bits);
        int outcome = drawOutcome(people[person], last, bits);
        learnFromBox(person, outcome);
        takeBack(people[person], outcome);
        return outcome;
    }

    private boolean hasTruth(int person, int last) {
        return people[person].trueFoot != NONE && present.last[last].trueRun != NONE;
    }

    private int drawOutcome(Person one, int last, int bits) {
        scales.putOn(present.pleases, sortOf(one).wear);
        int gap = Scales.gapOf(one.trueFoot, present.last[last].trueRun);
        int pair = scales.bestPair(bits, gap);
        return drawOfCertain() < scales.chanceOf(pair, gap) ? pair : NO_PAIR;
    }

    // ---- images

    public int image() {
        return picture.write(people, peopleCount, present);
    }

    public int octet(int k) {
        return picture.byteAt(k);
    }

    public boolean on() {
        int length = takeTape();
        if (!Image.isOne(tape, length, present)) {
            return false;
        }
        bringBoxesHome();
        peopleCount = Image.takePeople(tape, people);
        Image.takeRuns(tape, peopleCount, present);
        return true;
    }

    private void bringBoxesHome() {
        for (int i = 0; i < peopleCount; i++) {
            if (people[i].hasBox()) {
                present.store.change(people[i].boxLast, people[i].asked, people[i].boxBits, 1);
            }
        }
    }

    /** Words, numbers and signs of a text, one at a time, and the first fault along it. */
    private static final class Tokens {
        static final int NAME_LETTERS = 6;
        static final int NUMBER_DIGITS = 4;

        static final int LAST = 0;
        static final int PRICE = 1;
        static final int RUNS = 2;
        static final int SORT = 3;
        static final int OFF = 4;
        static final int WEAR = 5;
        static final int GROW = 6;
        static final int LEAVE = 7;
        static final int KEEPS = 8;
        static final int FARE = 9;
        static final int WIPE = 10;
        static final int FEE = 11;
        static final int STOCK = 12;
        static final int ASK = 13;
        static final int SEND = 14;
        static final int DOWN = 15;
        static final int UP = 19;
        static final int WHEN = 20;
        static final int OR = 21;
        static final int AND = 22;
        static final int NOT = 23;
        static final int ALL = 24;
        static final int KIND = 25;
        static final int CHARGE = 32;
        static final int MIN = 33;
        static final int MAX = 34;
        static final int OWN_WORDS = 35;

        /** In the order of the numbers above, each with a blank behind it. */
        private static final String OWN_TEXT = "last price runs sort off wear grow leave keeps fare wipe fee stock ask send down below same above up when or and not all kind tried less more small large cost charge min max ";

        /** A name is one number: its letters, 1 .. 26, at these places, 0 behind them. */
        private static final int[] PLACES = {14348907, 531441, 19683, 729, 27, 1};

        private static final int KIND_END = 0;
        private static final int KIND_WORD = 1;
        private static final int KIND_NUMBER = 2;
        private static final int KIND_SIGN = 3;
        /** A word or number with no blank between it and the one ahead: it fits nowhere. */
        private static final int KIND_GLUED = 4;
        private static final int KIND_BLANK = 5;

        private final int[] ownNames = new int[OWN_WORDS];
        private byte[] text = new byte[0];
        private int length;
        private int next;
        private int kind;
        private int start;
        /** Of a word its name, of a number its value, of a sign its byte. */
        private int value;
        /** The number of an own word; NONE for all else. */
        private int ownWord = NONE;
        private int fault;
        private int place = NONE;

        Tokens() {
            int word = 0;
            int letters = 0;
            for (int i = 0; i < OWN_TEXT.length() && word < OWN_WORDS; i++) {
                char sign = OWN_TEXT.charAt(i);
                if (sign == ' ') {
                    word++;
                    letters = 0;
                } else if (letters < NAME_LETTERS) {
                    ownNames[word] += (sign - 'a' + 1) * PLACES[letters];
                    letters++;
                }
            }
        }

        /** 0 behind the name; NONE where no name has a letter. */
        static int letterOf(int name, int k) {
            return k >= 0 && k < NAME_LETTERS ? name / PLACES[k] % 27 : NONE;
        }

        int faultFound() {
            return fault;
        }

        int faultPlace() {
            return place;
        }

        int start() {
            return start;
        }

        void open(byte[] bytes, int count) {
            text = bytes;
            length = Math.min(count, bytes.length);
            next = 0;
            kind = KIND_SIGN;
            fault = 0;
            place = NONE;
            advance();
        }

        void advance() {
            boolean glue = kind == KIND_WORD || kind == KIND_NUMBER;
            int behind = next;
            while (next < length && kindOf(text[next]) == KIND_BLANK) {
                next++;
            }
            start = next;
            ownWord = NONE;
            if (start >= length) {
                kind = KIND_END;
                return;
            }
            kind = kindOf(text[start]);
            next++;
            if (kind == KIND_SIGN) {
                value = text[start] & 255;
                return;
            }
            while (next < length && kindOf(text[next]) == kind) {
                next++;
            }
            if (kind == KIND_WORD) {
                readWord();
            } else {
                readNumber();
            }
            if (glue && start == behind) {
                kind = KIND_GLUED;
            }
        }

        private static int kindOf(byte sign) {
            if (sign >= 'a' && sign <= 'z') {
                return KIND_WORD;
            }
            if (sign >= '0' && sign <= '9') {
                return KIND_NUMBER;
            }
            return sign == 10 || sign == 32 ? KIND_BLANK : KIND_SIGN;
        }

        private void readWord() {
            value = 0;
            for (int i = 0; i < NAME_LETTERS && start + i < next; i++) {
                value += (text[start + i] - 'a' + 1) * PLACES[i];
            }
            for (int i = 0; i < OWN_WORDS && next - start <= NAME_LETTERS; i++) {
                if (ownNames[i] == value) {
                    ownWord = i;
                    return;
                }
            }
        }

        private void readNumber() {
            value = 0;
            for (int i = start; i < next && i < start + NUMBER_DIGITS; i++) {
                value = 10 * value + text[i] - '0';
            }
        }

        boolean atEnd() {
            return kind == KIND_END;
        }

        boolean atNumber() {
            return kind == KIND_NUMBER;
        }

        boolean atSign(char sign) {
            return kind == KIND_SIGN && value == sign;
        }

        /** The own word that stands here; NONE without. */
        int ownWord() {
            return kind == KIND_WORD ? ownWord : NONE;
        }

        boolean atWord(int word) {
            return ownWord() == word;
        }

        /** The first fault stays, and the text is at its end with it, so that all readers stop. */
        void fail(int what, int where) {
            if (fault == 0) {
                fault = what;
                place = where;
            }
            kind = KIND_END;
            next = length;
            start = length;
        }

        void failHere(int what) {
            fail(what, start);
        }

        void takeWord(int word) {
            if (atWord(word)) {
                advance();
            } else {
                failHere(FAULT_TEXT);
            }
        }

        void takeSign(char sign) {
            if (atSign(sign)) {
                advance();
            } else {
                failHere(FAULT_TEXT);
            }
        }

        /** The least number with a fault. */
        int takeNumber(int least, int greatest) {
            if (kind != KIND_NUMBER) {
                failHere(FAULT_TEXT);
            } else if (next - start > NUMBER_DIGITS) {
                fail(FAULT_TEXT, start + NUMBER_DIGITS);
            } else if (value < least || value > greatest) {
                failHere(FAULT_NUMBER);
            } else {
                int number = value;
                advance();
                return number;
            }
            return least;
        }

        /** A name as one number; 0 with a fault. */
        int takeName() {
            if (kind != KIND_WORD || ownWord != NONE) {
                failHere(FAULT_TEXT);
            } else if (next - start > NAME_LETTERS) {
                fail(FAULT_TEXT, start + NAME_LETTERS);
            } else {
                int name = value;
                advance();
                return name;
            }
            return 0;
        }
    }

    /** Reads the text of a house. */
    private static final class HouseReader {
        private final Tokens tokens;

        HouseReader(Tokens tokens) {
            this.tokens = tokens;
        }

        /** How many statements; NONE with a fault: what was read is not to be used then. */
        int read(House house) {
            house.clear();
            int count = 0;
            while (count < MOST_HOUSE_STATEMENTS && !tokens.atEnd()) {
                readStatement(house);
                tokens.takeSign(';');
                count++;
            }
            if (!tokens.atEnd()) {
                tokens.failHere(FAULT_MANY);
            }
            return tokens.faultFound() == 0 ? count : NONE;
        }

        private void readStatement(House house) {
            switch (tokens.ownWord()) {
                case Tokens.LAST:
                    readLast(house);
                    break;
                case Tokens.SORT:
                    readSort(house);
                    break;
                case Tokens.KEEPS:
                    tokens.advance();
                    takeHundreds(house.pleases);
                    break;
                case Tokens.FARE:
                    tokens.advance();
                    house.fare = tokens.takeNumber(0, GREATEST_N);
                    break;
                case Tokens.WIPE:
                    tokens.advance();
                    house.wipe = tokens.takeNumber(0, GREATEST_N);
                    break;
                case Tokens.FEE:
                    tokens.advance();
                    house.charge = tokens.takeNumber(0, GREATEST_FEE);
                    break;
                case Tokens.STOCK:
                    readStock(house);
                    break;
                case Tokens.ASK:
                    readAsk(house);
                    break;
                default:
                    tokens.failHere(FAULT_TEXT);
            }
        }

        private void readLast(House house) {
            if (house.lasts >= MOST_LASTS) {
                tokens.failHere(FAULT_MANY);
                return;
            }
            tokens.advance();
            Last last = house.last[house.lasts];
            int place = tokens.start();
            last.name = tokens.takeName();
            refuseKnown(house, last.name, place);
            tokens.takeWord(Tokens.PRICE);
            last.price = tokens.takeNumber(0, GREATEST_N);
            tokens.takeWord(Tokens.RUNS);
            takeChances(last.runs);
            house.lasts++;
        }

        private void readSort(House house) {
            if (house.sorts >= MOST_SORTS) {
                tokens.failHere(FAULT_MANY);
                return;
            }
            tokens.advance();
            Sort sort = house.sort[house.sorts];
            int place = tokens.start();
            sort.name = tokens.takeName();
            refuseKnown(house, sort.name, place);
            tokens.takeWord(Tokens.OFF);
            takeChances(sort.feet);
            tokens.takeWord(Tokens.WEAR);
            sort.wear = tokens.takeNumber(0, 100);
            tokens.takeWord(Tokens.GROW);
            sort.grow = tokens.takeNumber(0, 100);
            tokens.takeWord(Tokens.LEAVE);
            sort.leave = tokens.takeNumber(0, 100);
            house.sorts++;
        }

        private void readStock(House house) {
            tokens.advance();
            int place = tokens.start();
            int name = tokens.takeName();
            int last = house.lastNamed(name);
            if (last == NONE) {
                tokens.fail(FAULT_NAME, place);
            }
            int size = tokens.takeNumber(LEAST_SIZE, GREATEST_SIZE);
            int pairs = tokens.takeNumber(0, 99);
            if (last != NONE) {
                house.store.set(last, size, pairs);
            }
        }

        private void readAsk(House house) {
            if (house.questions >= MOST_QUESTIONS) {
                tokens.failHere(FAULT_MANY);
                return;
            }
            tokens.advance();
            Question question = house.question[house.questions];
            int place = tokens.start();
            question.name = tokens.takeName();
            refuseKnown(house, question.name, place);
            takeHundreds(question.yes);
            house.questions++;
        }

        private void refuseKnown(House house, int name, int place) {
            if (house.hasName(name)) {
                tokens.fail(FAULT_NAME, place);
            }
        }

        private void takeHundreds(int[] into) {
            for (int i = 0; i < into.length; i++) {
                into[i] = tokens.takeNumber(0, 100);
            }
        }

        /** Chances of 100 as ten-thousandths; what they lack goes to the middle one. */
        private void takeChances(int[] into) {
            int lack = 100;
            for (int i = 0; i < into.length; i++) {
                int chance = tokens.takeNumber(0, lack);
                into[i] = 100 * chance;
                lack -= chance;
            }
            into[into.length / 2] += 100 * lack;
        }
    }

    /**
     * The rules: a text is read into steps over a stack of numbers, and a box is asked of them. What
     * holds is 1 there, what does not is 0.
     */
    private static final class Rules {
        static final int FACTS = 8;
        private static final int BOUND = 1000000;
        /** No text with at most six brackets open needs half of it. */
        private static final int STACK = 64;

        /** A step of 0 or above puts that number on the stack; these take two from it. */
        private static final int STEP_ADD = -1;
        private static final int STEP_SUBTRACT = -2;
        private static final int STEP_TIMES = -3;
        private static final int STEP_OVER = -4;
        private static final int STEP_LESSER = -5;
        private static final int STEP_GREATER = -6;
        private static final int STEP_BELOW = -7;
        private static final int STEP_ABOVE = -8;
        private static final int STEP_EQUAL = -9;
        private static final int STEP_OR = -10;
        private static final int STEP_AND = -11;
        private static final int STEP_NOT = -12;
        /** This less k puts fact k on the stack. */
        private static final int STEP_FACT = -20;
        /** This less bits ends a statement: the box is found if what is on the stack holds. */
        private static final int STEP_SEND = -40;

        private final Tokens tokens;
        private final int[][] steps = new int[MOST_RULES][];
        private final int[] draft = new int[TAPE_BYTES];
        private int drafted;
        private final int[] stack = new int[STACK];
        private int height;

        Rules(Tokens tokens) {
            this.tokens = tokens;
        }

        boolean isThere(int k) {
            return k >= 0 && k < MOST_RULES && steps[k] != null;
        }

        int count() {
            int there = 0;
            for (int k = 0; k < MOST_RULES; k++) {
                if (isThere(k)) {
                    there++;
                }
            }
            return there;
        }

        /** The bits of the first statement whose test holds; 0 without. */
        int choose(int k, int[] facts) {
            if (!isThere(k)) {
                return 0;
            }
            height = 0;
            for (int i = 0; i < steps[k].length; i++) {
                int step = steps[k][i];
                if (step >= 0) {
                    push(step);
                } else if (step <= STEP_SEND) {
                    if (pop() != 0) {
                        return STEP_SEND - step;
                    }
                } else if (step <= STEP_FACT) {
                    push(facts[STEP_FACT - step]);
                } else if (step == STEP_NOT) {
                    push(1 - pop());
                } else {
                    int right = pop();
                    push(reckon(step, pop(), right));
                }
            }
            return 0;
        }

        private void push(int number) {
            if (height < STACK) {
                stack[height] = number;
                height++;
            }
        }

        private int pop() {
            if (height == 0) {
                return 0;
            }
            height--;
            return stack[height];
        }

        private static int reckon(int step, int left, int right) {
            switch (step) {
                case STEP_ADD:
                    return bound((long) left + right);
                case STEP_SUBTRACT:
                    return bound((long) left - right);
                case STEP_TIMES:
                    return bound((long) left * right);
                case STEP_OVER:
                    return right == 0 ? 0 : Math.floorDiv(left, right);
                case STEP_LESSER:
                    return Math.min(left, right);
                case STEP_GREATER:
                    return Math.max(left, right);
                case STEP_BELOW:
                    return left < right ? 1 : 0;
                case STEP_ABOVE:
                    return left > right ? 1 : 0;
                case STEP_EQUAL:
                    return left == right ? 1 : 0;
                case STEP_OR:
                    return left | right;
                case STEP_AND:
                    return left & right;
                default:
                    return 0;
            }
        }

        private static int bound(long number) {
            return (int) Math.max(-BOUND, Math.min(BOUND, number));
        }

        /** Reads the rule k: how many statements; NONE with a fault, the old one staying then. */
        int read(int k) {
            drafted = 0;
            int count = 0;
            while (count < MOST_RULE_STATEMENTS && !tokens.atEnd()) {
                tokens.takeWord(Tokens.SEND);
                int bits = readSizes();
                tokens.takeWord(Tokens.WHEN);
                readTest(0);
                tokens.takeSign(';');
                put(STEP_SEND - bits);
                count++;
            }
            if (!tokens.atEnd()) {
                tokens.failHere(FAULT_MANY);
            }
            if (tokens.faultFound() != 0 || k < 0 || k >= MOST_RULES) {
                return NONE;
            }
            steps[k] = Arrays.copyOf(draft, drafted);
            return count;
        }

        private void put(int step) {
            if (drafted < TAPE_BYTES) {
                draft[drafted] = step;
                drafted++;
            }
        }

        private int readSizes() {
            int bits = 0;
            for (int i = 0; i <= MOST_IN_BOX && atSizeWord(); i++) {
                int bit = 1 << tokens.ownWord() - Tokens.DOWN;
                if (i == MOST_IN_BOX) {
                    tokens.failHere(FAULT_MANY);
                } else if ((bits & bit) != 0) {
                    tokens.failHere(FAULT_NAME);
                } else {
                    bits |= bit;
                    tokens.advance();
                }
            }
            if (bits == 0) {
                tokens.failHere(FAULT_TEXT);
            }
            return bits;
        }

        private boolean atSizeWord() {
            return tokens.ownWord() >= Tokens.DOWN && tokens.ownWord() <= Tokens.UP;
        }

        private void readTest(int open) {
            readBoth(open);
            for (int i = 0; i < TAPE_BYTES && tokens.atWord(Tokens.OR); i++) {
                tokens.advance();
                readBoth(open);
                put(STEP_OR);
            }
        }

        private void readBoth(int open) {
            readFact(open);
            for (int i = 0; i < TAPE_BYTES && tokens.atWord(Tokens.AND); i++) {
                tokens.advance();
                readFact(open);
                put(STEP_AND);
            }
        }

        private void readFact(int open) {
            if (tokens.atWord(Tokens.ALL)) {
                tokens.advance();
                put(1);
            } else if (tokens.atWord(Tokens.NOT)) {
                if (enter(open)) {
                    readFact(open + 1);
                    put(STEP_NOT);
                }
            } else if (tokens.atSign('[')) {
                if (enter(open)) {
                    readTest(open + 1);
                    tokens.takeSign(']');
                }
            } else {
                readComparison(open);
            }
        }

        /** Takes a ( [ not, unless too many are open: this bounds the depth of all that follows. */
        private boolean enter(int open) {
            if (open >= MOST_OPEN) {
                tokens.failHere(FAULT_DEPTH);
                return false;
            }
            tokens.advance();
            return true;
        }

        private void readComparison(int open) {
            readSum(open);
            int step = STEP_EQUAL;
            if (tokens.atSign('<')) {
                step = STEP_BELOW;
                tokens.advance();
            } else if (tokens.atSign('>')) {
                step = STEP_ABOVE;
                tokens.advance();
            } else {
                tokens.takeSign('=');
            }
            readSum(open);
            put(step);
        }

        private void readSum(int open) {
            readProduct(open);
            for (int i = 0; i < TAPE_BYTES && (tokens.atSign('+') || tokens.atSign('-')); i++) {
                int step = tokens.atSign('+') ? STEP_ADD : STEP_SUBTRACT;
                tokens.advance();
                readProduct(open);
                put(step);
            }
        }

        private void readProduct(int open) {
            readPart(open);
            for (int i = 0; i < TAPE_BYTES && (tokens.atSign('*') || tokens.atSign('/')); i++) {
                int step = tokens.atSign('*') ? STEP_TIMES : STEP_OVER;
                tokens.advance();
                readPart(open);
                put(step);
            }
        }

        private void readPart(int open) {
            int word = tokens.ownWord();
            if (tokens.atNumber()) {
                put(tokens.takeNumber(0, GREATEST_N));
            } else if (word >= Tokens.KIND && word <= Tokens.CHARGE) {
                tokens.advance();
                put(STEP_FACT - (word - Tokens.KIND));
            } else if (word == Tokens.MIN || word == Tokens.MAX) {
                tokens.advance();
                readBracket(open, true);
                put(word == Tokens.MIN ? STEP_LESSER : STEP_GREATER);
            } else {
                readBracket(open, false);
            }
        }

        private void readBracket(int open, boolean ofTwo) {
            if (!tokens.atSign('(')) {
                tokens.failHere(FAULT_TEXT);
            } else if (enter(open)) {
                readSum(open + 1);
                if (ofTwo) {
                    tokens.takeSign(',');
                    readSum(open + 1);
                }
                tokens.takeSign(')');
            }
        }
    }

    /** What the text of a house tells, and what of it changes as time goes by. */
    private static final class House {
        final Last[] last = new Last[MOST_LASTS];
        final Sort[] sort = new Sort[MOST_SORTS];
        final Question[] question = new Question[MOST_QUESTIONS];
        /** How likely a pair is kept by how far it is too large, from 2 too small on. */
        final int[] pleases = new int[FEET];
        final Store store = new Store();
        int lasts;
        int sorts;
        int questions;
        int fare;
        int wipe;
        int charge;

        House() {
            for (int i = 0; i < MOST_LASTS; i++) {
                last[i] = new Last();
            }
            for (int i = 0; i < MOST_SORTS; i++) {
                sort[i] = new Sort();
            }
            for (int i = 0; i < MOST_QUESTIONS; i++) {
                question[i] = new Question();
            }
        }

        void clear() {
            lasts = 0;
            sorts = 0;
            questions = 0;
            fare = 0;
            wipe = 0;
            charge = 0;
            Arrays.fill(pleases, 0);
            store.clear();
            for (int i = 0; i < MOST_LASTS; i++) {
                last[i].trueRun = NONE;
            }
        }

        /** NONE when no last bears that name. */
        int lastNamed(int name) {
            for (int i = 0; i < lasts; i++) {
                if (last[i].name == name) {
                    return i;
                }
            }
            return NONE;
        }

        boolean hasName(int name) {
            for (int i = 0; i < sorts; i++) {
                if (sort[i].name == name) {
                    return true;
                }
            }
            for (int i = 0; i < questions; i++) {
                if (question[i].name == name) {
                    return true;
                }
            }
            return lastNamed(name) != NONE;
        }

        int moneyOfOneKept(int which, int pairs) {
            int others = pairs - 1;
            int wayBack = others > 0 ? fare + others * wipe : 0;
            return last[which].price - fare - wayBack;
        }

        int moneyOfNone(int pairs, int asCharge) {
            return asCharge - 2 * fare - pairs * wipe;
        }
    }

    private static final class Last {
        private static final int LEANS_FROM = 6000;

        int name;
        int price;
        /** What is thought: small, true, large. */
        final int[] runs = new int[RUN_COUNT];
        int trueRun = NONE;

        /** -1 when it is thought to be small, 1 when large, or 0. */
        int lean() {
            if (runs[0] >= LEANS_FROM) {
                return -1;
            }
            return runs[2] >= LEANS_FROM ? 1 : 0;
        }
    }

    /** A sort of people; its feet are what is thought of someone new. */
    private static final class Sort {
        int name;
        final int[] feet = new int[FEET];
        int wear;
        int grow;
        int leave;
    }

    private static final class Question {
        int name;
        final int[] yes = new int[FEET];
    }

    private static final class Person {
        private static final int WHOLE_OF_SELDOM = 3;

        int sort;
        int asked;
        /** What is thought: 2 below what was asked .. 2 above. */
        final int[] feet = new int[FEET];
        int came;
        int whole;
        int boxLast = NONE;
        int boxBits;
        int trueFoot = NONE;
        /** How many pairs were kept, by last and by size from 2 below what was asked on. */
        private final int[] kept = new int[MOST_LASTS * FEET];

        void begin(int ofSort, int size, int[] thought) {
            sort = ofSort;
            asked = size;
            System.arraycopy(thought, 0, feet, 0, FEET);
            came = 0;
            whole = 0;
            boxLast = NONE;
            boxBits = 0;
            trueFoot = NONE;
            Arrays.fill(kept, 0);
        }

        boolean hasBox() {
            return boxBits != 0;
        }

        boolean canBeSent(int bits) {
            if (bits < 1 || bits > ALL_BITS || Integer.bitCount(bits) > MOST_IN_BOX) {
                return false;
            }
            return withinSizes(bits) == bits;
        }

        /** The bits without those of sizes that no shoe has. */
        int withinSizes(int bits) {
            int within = 0;
            for (int i = 0; i < FEET; i++) {
                if (isInBox(bits, i) && isSize(asked + i - MIDDLE)) {
                    within |= 1 << i;
                }
            }
            return within;
        }

        void endBox(int outcome) {
            came++;
            if (outcome == NO_PAIR) {
                whole++;
            } else {
                kept[boxLast * FEET + outcome]++;
            }
            boxLast = NONE;
            boxBits = 0;
        }

        boolean isSeldomHonest() {
            return whole >= WHOLE_OF_SELDOM && came == whole;
        }

        private boolean hasKept(int last, int size) {
            int pair = size - asked + MIDDLE;
            return pair >= 0 && pair < FEET && kept[last * FEET + pair] > 0;
        }

        boolean isAlike(Person other) {
            for (int last = 0; last < MOST_LASTS; last++) {
                for (int size = asked - MIDDLE; size <= asked + MIDDLE; size++) {
                    if (hasKept(last, size) && other.hasKept(last, size)) {
                        return true;
                    }
                }
            }
            return false;
        }

        void countKept(int last, int[] bySize) {
            for (int i = 0; i < FEET; i++) {
                int size = asked + i - MIDDLE;
                if (isSize(size)) {
                    bySize[size - LEAST_SIZE] += kept[last * FEET + i];
                }
            }
        }

        /** From above on, so that each foot still finds the one below as it was. */
        void grow(int chance) {
            feet[FEET - 1] += feet[FEET - 2] * chance / 100;
            for (int i = FEET - 2; i >= 0; i--) {
                int below = i == 0 ? 0 : feet[i - 1];
                feet[i] = feet[i] * (100 - chance) / 100 + below * chance / 100;
            }
            Scales.makeCertain(feet);
        }
    }

    /** The pairs in stock, and those that come back to it as days go by. */
    private static final class Store {
        private static final int PLACES = MOST_LASTS * SIZES;

        private final int[] pairs = new int[PLACES];
        /** By the day of the week on which they will be there. */
        private final int[] coming = new int[WEEK * PLACES];
        private int comingCount;
        private int today;

        void clear() {
            Arrays.fill(pairs, 0);
            Arrays.fill(coming, 0);
            comingCount = 0;
            today = 0;
        }

        int day() {
            return today;
        }

        int onTheWay() {
            return comingCount;
        }

        private static int placeOf(int last, int size) {
            return last * SIZES + size - LEAST_SIZE;
        }

        void set(int last, int size, int count) {
            pairs[placeOf(last, size)] = count;
        }

        int count(int last, int size) {
            return pairs[placeOf(last, size)];
        }

        boolean hasAll(int last, int asked, int bits) {
            for (int i = 0; i < FEET; i++) {
                if (isInBox(bits, i) && count(last, asked + i - MIDDLE) < 1) {
                    return false;
                }
            }
            return true;
        }

        void change(int last, int asked, int bits, int by) {
            for (int i = 0; i < FEET; i++) {
                if (isInBox(bits, i)) {
                    pairs[placeOf(last, asked + i - MIDDLE)] += by;
                }
            }
        }

        /** A week from now is the same day of the week. */
        void expect(int last, int asked, int bits) {
            int from = Math.floorMod(today, WEEK) * PLACES;
            for (int i = 0; i < FEET; i++) {
                if (isInBox(bits, i)) {
                    coming[from + placeOf(last, asked + i - MIDDLE)]++;
                    comingCount++;
                }
            }
        }

        void pass(int days) {
            for (int i = 0; i < days; i++) {
                today++;
                if (comingCount > 0) {
                    receive(Math.floorMod(today, WEEK) * PLACES);
                }
            }
        }

        private void receive(int from) {
            for (int i = 0; i < PLACES; i++) {
                pairs[i] += coming[from + i];
                comingCount -= coming[from + i];
                coming[from + i] = 0;
            }
        }
    }

    /**
     * Weighs what may come of a box. How a pair fits depends on the gap between foot and run
     * alone, so all pairs of these with the same gap are weighed as one.
     */
    private static final class Scales {
        private static final int GAPS = 7;

        final long[] byFoot = new long[FEET];
        final long[] byRun = new long[RUN_COUNT];
        private final long[] byGap = new long[GAPS];
        private int[] pleases = new int[FEET];
        private int honest;

        void putOn(int[] byFit, int wear) {
            pleases = byFit;
            honest = 100 - wear;
        }

        /** Feet count from 0 to 4, runs from 0 to 2, gaps (foot less run) from 0 to 6. */
        static int gapOf(int foot, int run) {
            return foot - run + 2;
        }

        private int pleasesBy(int pair, int gap) {
            int fit = pair - gap + 3;
            return fit >= 0 && fit < FEET ? pleases[fit] : 0;
        }

        /** The pair of the box that pleases most, the smallest of like ones. */
        int bestPair(int bits, int gap) {
            int found = NO_PAIR;
            for (int pair = 0; pair < FEET; pair++) {
                if (isInBox(bits, pair)
                        && (found == NO_PAIR || pleasesBy(pair, gap) > pleasesBy(found, gap))) {
                    found = pair;
                }
            }
            return found;
        }

        /** Of 10000: how likely this pair, if it is the best one, is kept. */
        int chanceOf(int pair, int gap) {
            return pleasesBy(pair, gap) * honest;
        }

        /** All weights of what came of a box; byFoot and byRun have them in parts. */
        long weigh(int[] feet, int[] runs, int bits, int outcome) {
            Arrays.fill(byFoot, 0);
            Arrays.fill(byRun, 0);
            long all = 0;
            for (int foot = 0; foot < FEET; foot++) {
                for (int run = 0; run < RUN_COUNT; run++) {
                    long chance = chanceThat(outcome, bits, gapOf(foot, run));
                    long weight = chance * feet[foot] * runs[run];
                    byFoot[foot] += weight;
                    byRun[run] += weight;
                    all += weight;
                }
            }
            return all;
        }

        private int chanceThat(int outcome, int bits, int gap) {
            int pair = bestPair(bits, gap);
            if (outcome == NO_PAIR) {
                return CERTAIN - chanceOf(pair, gap);
            }
            return outcome == pair ? chanceOf(pair, gap) : 0;
        }

        /** All weights of an answer; byFoot has them in parts. */
        long weighAnswer(int[] feet, int[] chances, boolean yes) {
            long all = 0;
            for (int foot = 0; foot < FEET; foot++) {
                int chance = yes ? chances[foot] : 100 - chances[foot];
                byFoot[foot] = (long) feet[foot] * chance;
                all += byFoot[foot];
            }
            return all;
        }

        /** Ahead of any number of calls of keptOf(). */
        void layOut(int[] feet, int[] runs) {
            Arrays.fill(byGap, 0);
            for (int foot = 0; foot < FEET; foot++) {
                for (int run = 0; run < RUN_COUNT; run++) {
                    byGap[gapOf(foot, run)] += (long) feet[foot] * runs[run];
                }
            }
        }

        /** All weights of a pair being kept, whichever of the box it is. */
        long keptOf(int bits) {
            long kept = 0;
            for (int gap = 0; gap < GAPS; gap++) {
                int most = 0;
                for (int pair = 0; pair < FEET; pair++) {
                    if (isInBox(bits, pair)) {
                        most = Math.max(most, pleasesBy(pair, gap));
                    }
                }
                kept += byGap[gap] * most;
            }
            return kept * honest;
        }

        /** What is thought behind something that has these weights, 10000 together. */
        static void learn(long[] weights, int[] thought) {
            long all = 0;
            for (int i = 0; i < weights.length; i++) {
                all += weights[i];
            }
            if (all <= 0) {
                return;
            }
            for (int i = 0; i < thought.length && i < weights.length; i++) {
                thought[i] = (int) (CERTAIN * weights[i] / all);
            }
            makeCertain(thought);
        }

        /** What lacks comes to the greatest one, the first of like ones. */
        static void makeCertain(int[] thought) {
            int greatest = 0;
            int lack = CERTAIN;
            for (int i = 0; i < thought.length; i++) {
                lack -= thought[i];
                if (thought[i] > thought[greatest]) {
                    greatest = i;
                }
            }
            if (greatest < thought.length) {
                thought[greatest] += lack;
            }
        }
    }

    /** People and what is thought, as bytes. */
    private static final class Image {
        private static final int HEAD = 1;
        private static final int PERSON_BYTES = 2 + 2 * FEET;
        private static final int LAST_BYTES = 2 * RUN_COUNT;
        private static final int MOST_BYTES =
                HEAD + MOST_PEOPLE * PERSON_BYTES + MOST_LASTS * LAST_BYTES + 1;

        private final byte[] bytes = new byte[MOST_BYTES];
        private int length;

        int byteAt(int k) {
            return k >= 0 && k < length ? bytes[k] & 255 : NONE;
        }

        int write(Person[] people, int count, House house) {
            length = 0;
            put(count);
            for (int i = 0; i < count && i < people.length; i++) {
                put(people[i].sort);
                put(people[i].asked);
                putRow(people[i].feet);
            }
            for (int i = 0; i < house.lasts; i++) {
                putRow(house.last[i].runs);
            }
            put(check(bytes, length));
            return length;
        }

        private void put(int octet) {
            if (length < MOST_BYTES) {
                bytes[length] = (byte) octet;
                length++;
            }
        }

        private void putRow(int[] row) {
            for (int i = 0; i < row.length; i++) {
                put(row[i] >> 8);
                put(row[i]);
            }
        }

        private static int check(byte[] image, int count) {
            int c = 13;
            for (int i = 0; i < count && i < image.length; i++) {
                c = (5 * c + (image[i] & 255)) % 241;
            }
            return c;
        }

        private static int personAt(int number) {
            return HEAD + number * PERSON_BYTES;
        }

        /** Whether the bytes are an image for this house. */
        static boolean isOne(byte[] image, int count, House house) {
            if (count < 1 || count > image.length) {
                return false;
            }
            int told = image[0] & 255;
            int runsAt = personAt(told);
            if (told > MOST_PEOPLE || count != runsAt + house.lasts * LAST_BYTES + 1) {
                return false;
            }
            for (int i = 0; i < told; i++) {
                if (!isPersonAt(image, personAt(i), house)) {
                    return false;
                }
            }
            for (int i = 0; i < house.lasts; i++) {
                if (!isCertain(image, runsAt + i * LAST_BYTES, RUN_COUNT)) {
                    return false;
                }
            }
            return (image[count - 1] & 255) == check(image, count - 1);
        }

        private static boolean isPersonAt(byte[] image, int at, House house) {
            return (image[at] & 255) < house.sorts && isSize(image[at + 1] & 255)
                    && isCertain(image, at + 2, FEET);
        }

        private static int numberAt(byte[] image, int at) {
            return (image[at] & 255) << 8 | image[at + 1] & 255;
        }

        private static boolean isCertain(byte[] image, int at, int numbers) {
            int sum = 0;
            for (int i = 0; i < numbers; i++) {
                sum += numberAt(image, at + 2 * i);
            }
            return sum == CERTAIN;
        }

        private static void takeRow(byte[] image, int at, int[] row) {
            for (int i = 0; i < row.length; i++) {
                row[i] = numberAt(image, at + 2 * i);
            }
        }

        /** Makes the people anew that an image tells: how many. */
        static int takePeople(byte[] image, Person[] people) {
            int told = Math.min(image[0] & 255, people.length);
            for (int i = 0; i < told; i++) {
                int at = personAt(i);
                people[i].begin(image[at] & 255, image[at + 1] & 255, people[i].feet);
                takeRow(image, at + 2, people[i].feet);
            }
            return told;
        }

        static void takeRuns(byte[] image, int told, House house) {
            for (int i = 0; i < house.lasts; i++) {
                takeRow(image, personAt(told) + i * LAST_BYTES, house.last[i].runs);
            }
        }
    }
}
