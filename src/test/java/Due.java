/** What the tests share: answers that are due, and texts put on a tape. */
final class Due {
    private int wrong = 0;

    void is(int promise, String call, long got, long want) {
        if (got != want) {
            wrong++;
            System.out.println("promise " + promise + ": " + call + " answered " + got + ", due is " + want);
        }
    }

    void end() {
        System.out.println(wrong == 0 ? "all answers are as due" : wrong + " answers are not as due");
        if (wrong != 0) {
            System.exit(1);
        }
    }

    /** Makes the tape have this text alone. */
    static void tape(HyphenWar x, String text) {
        x.end(0);
        for (int i = 0; i < text.length(); i += 20) {
            int[] five = new int[5];
            for (int k = 0; k < 20; k++) {
                int sign = i + k < text.length() ? text.charAt(i + k) & 255 : 0;
                five[k / 4] = five[k / 4] << 8 | sign;
            }
            x.feed(five[0], five[1], five[2], five[3], five[4]);
        }
        x.end(text.length());
    }

    static int law(HyphenWar x, String text) {
        tape(x, text);
        return x.law();
    }

    /** A new law that is in force at once. */
    void inForce(HyphenWar x, String text) {
        int number = law(x, text);
        is(13, "law() " + text, number, x.count(2) - 1);
        x.force(number);
    }

    static int orders(HyphenWar x, String text) {
        tape(x, text);
        return x.orders();
    }
}
