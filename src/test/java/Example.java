/** The example of README.md, word by word. */
public final class Example {
    /** A text comes onto the tape by twenty bytes a call; end() takes off what fills the last of them. */
    static void put(ThreeSizes sizes, String text) {
        for (int at = 0; at < text.length(); at += 20) {
            int[] five = new int[5];
            for (int i = 0; i < 20; i++) {
                int sign = at + i < text.length() ? text.charAt(at + i) : ' ';
                five[i / 4] = five[i / 4] << 8 | sign;
            }
            sizes.feed(five[0], five[1], five[2], five[3], five[4]);
        }
        sizes.end(text.length());
    }

    public static void main(String[] args) {
        ThreeSizes sizes = new ThreeSizes();
        put(sizes, "last derby price 1000 runs 50 50 0;"
                + "sort mixed off 0 20 60 20 0 wear 10 grow 50 leave 1;"
                + "keeps 0 20 80 40 0; fare 50; wipe 10; ask wide 0 0 50 100 100;"
                + "stock derby 40 2; stock derby 41 1;");
        System.out.println(sizes.house());                        // 8 statements
        put(sizes, "send same above when more > 1999; send same when all;");
        System.out.println(sizes.rule(0));                        // 2 statements
        System.out.println(sizes.person(0, 40));                  // 0: of sort 0, asks for a 40
        System.out.println(sizes.best(0, 0, false));              // 12: the bits 4 (a 40) and 8 (a 41)
        System.out.println(sizes.mean(0, 0, 12, false));          // 51630 hundredths
        System.out.println(sizes.way(3, 0, 0));                   // 51630: rule 0 sends these as well
        System.out.println(sizes.question(0, 0));                 // 0: worth more than any other
        System.out.println(sizes.answer(0, 0, true));             // true: the foot is thought anew
        System.out.println(sizes.send(0, 0, 12));                 // 1 box is out
        System.out.println(sizes.back(0, 1));                     // true: the 41 stayed
        System.out.println(sizes.earned());                       // 890
        System.out.println(sizes.last(0, -1));                    // 6364 of 10000: that it runs small
        System.out.println(sizes.days(7));                        // 7: the other pair is in stock again
        System.out.println(sizes.stock(0, 40));                   // 2
        put(sizes, "fee 100;");
        System.out.println(sizes.house());                        // -1: a fault, all stays as it was
        System.out.println(sizes.fault(0));                       // 2: a number that can't be
        System.out.println(sizes.fault(1));                       // 4: at this byte of the text
    }
}
