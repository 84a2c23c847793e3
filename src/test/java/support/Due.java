/** What the tests share: they print each answer that is not the one due and end with exit code 1 if there was one. */
final class Due {
    private static int asked = 0;
    private static int wrong = 0;

    private Due() {
    }

    static void due(String call, long got, long want) {
        asked++;
        if (got == want) return;
        wrong++;
        if (wrong <= 50) System.out.println(call + " answered " + got + ", due is " + want);
    }

    /** A fraction: the parts above and below the line. */
    static void dueBoth(String call, long gotAbove, long gotBelow, long above, long below) {
        due(call + " above", gotAbove, above);
        due(call + " below", gotBelow, below);
    }

    /** Feeds a text to the tape, byte by byte. */
    static void feed(JustFivePounds x, String text) {
        for (int i = 0; i < text.length(); i++) {
            if (x.feed(1, text.charAt(i), 0, 0, 0, 0) < 0) throw new IllegalStateException("the tape has no room");
        }
    }

    /** Feeds a text and takes it as THE LAW. */
    static JustFivePounds by(JustFivePounds x, String text) {
        feed(x, text);
        int t = x.text();
        if (t < 0) throw new IllegalStateException("no text: " + t);
        x.force(t);
        return x;
    }

    /** A new object under a law. */
    static JustFivePounds by(String text) {
        return by(new JustFivePounds(), text);
    }

    /** A SHEET becomes a row of a sort with these numbers. */
    static void row(JustFivePounds x, int s, int sort, int... numbers) {
        x.sheet(s, sort, numbers.length);
        for (int i = 0; i < numbers.length; i++) x.cell(s, i, numbers[i]);
    }

    static void end(String name) {
        System.out.println(name + ": " + asked + " answers, " + wrong + " not as due");
        if (wrong != 0) System.exit(1);
    }
}
