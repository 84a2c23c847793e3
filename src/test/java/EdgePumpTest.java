/** The edges that promises 1 to 10 name, sentence by sentence: a new object, the pump, the tape, texts, hands. */
public final class EdgePumpTest {
    private static final String REST = "late 0;costs 0;";

    private static void due(String call, long got, long want) {
        Edge.due(call, got, want);
    }

    private static JustFivePounds fed(String text) {
        JustFivePounds x = new JustFivePounds();
        Due.feed(x, text);
        return x;
    }

    private static void fault(String text, int place) {
        due("text() of '" + text + "'", fed(text).text(), -100 - place);
    }

    private static void stands(String text) {
        due("text() of '" + text + "'", fed(text).text(), 1);
    }

    /** What an E is, asked as costs. */
    private static void says(String e, int want) {
        due("costs " + e, Due.by("runs 1;late 0;costs " + e + ";").asks(2, 10, 0, 0), want);
    }

    // ---- promises 1 to 3: a new object, count, set

    private static void aNewObject() {
        Edge.of(1, "No HANDS.");
        JustFivePounds x = new JustFivePounds();
        due("count(0)", x.count(0), 0);
        due("who(0)", x.who(0), -1);
        for (int h = 0; h < 5; h++) {
            due("told(" + h + ", 0)", x.told(h, 0), -5);
            due("taken(" + h + ", 0)", x.taken(h, 0), -11);
        }
        Edge.of(2, "TEXTS", "TEXT 0, at first, and THE LAW: runs notch * notch * 3 ; late 3 - after ; costs off * off ;");
        due("TEXTS", x.count(5), 1);
        due("THE LAW", x.count(6), 0);
        due("THE TAPE", x.count(7), 0);
        for (int notch = 1; notch <= 3; notch++) due("runs", x.asks(0, 10 * notch, 0, 0), 3 * notch * notch);
        for (int after = 0; after < 5; after++) due("late", x.asks(1, 10 + after, 0, 0), after < 3 ? 3 - after : 0);
        for (int off : new int[] {0, 1, 31}) due("costs", x.asks(2, 10, 10 * off, 0), off * off);
        due("costs, else the bound", x.asks(2, 10, 320, 0), 999);
    }

    private static void eachOfThePumpHasItsLimits() {
        int[] first = {500, 1, 40, 5000}, least = {1, 0, 1, 1}, most = {2000, 9, 99, 5000};
        Edge.of(2, "THE PUMP", "MARK (1 .. 2000; 500 at first), DRIPS (0 .. 9; 1), PRICE (1 .. 99; 40), FULL AT (1 .. 5000; 5000)");
        for (int what = 0; what < 4; what++) due("new count", new JustFivePounds().count(what + 1), first[what]);
        Edge.of(3, "MARK (what 0), DRIPS (1), PRICE (2), FULL AT (3) becomes v: what it was");
        for (int what = 0; what < 4; what++) {
            JustFivePounds x = new JustFivePounds();
            due("set(" + what + ") to the least", x.set(what, least[what]), first[what]);
            due("set(" + what + ") to the most", x.set(what, most[what]), least[what]);
            due("it is the most", x.count(what + 1), most[what]);
        }
        Edge.of(3, "-5: what; -7: v.");
        for (int what = 0; what < 4; what++) {
            JustFivePounds x = new JustFivePounds();
            for (int v : Edge.beside(least[what], most[what])) due("set(" + what + ", " + v + ")", x.set(what, v), -7);
            due("it is as it was", x.count(what + 1), first[what]);
        }
        for (int what : Edge.beside(0, 3)) {
            due("set(" + what + ", 1)", new JustFivePounds().set(what, 1), -5);
            due("-5 is told first", new JustFivePounds().set(what, -1), -5);
        }
    }

    private static void countRefuses() {
        Edge.of(2, "7 bytes of THE TAPE. BAD.");
        JustFivePounds x = new JustFivePounds();
        x.feed(2, 1, 2, 3, 4, 5);
        due("count(7)", x.count(7), 2);
        for (int what : Edge.beside(0, 7)) due("count(" + what + ")", x.count(what), -2);
    }

    // ---- promise 4: feed

    private static void feedTakesOneToFiveBytes() {
        Edge.of(4, "The first n (1 .. 5) of five bytes (0 .. 255 each)");
        for (int n = 1; n <= 5; n++) due("feed(" + n + ")", new JustFivePounds().feed(n, 0, 255, 0, 255, 0), n);
        JustFivePounds x = new JustFivePounds();
        x.feed(1, 'r', '?', '?', '?', '?');
        x.feed(5, 'u', 'n', 's', '7', ';');
        for (int i = 0; i < REST.length(); i += 3) x.feed(3, REST.charAt(i), REST.charAt(i + 1), REST.charAt(i + 2), '?', '?');
        due("what is behind n doesn't come", x.text(), 1);
        Edge.of(4, "BAD: n, any of the five");
        JustFivePounds y = new JustFivePounds();
        for (int n : Edge.beside(1, 5)) due("feed(" + n + ")", y.feed(n, 0, 0, 0, 0, 0), -2);
        for (int bad : Edge.beside(0, 255)) {
            for (int at = 0; at < 5; at++) {
                int[] five = new int[5];
                five[at] = bad;
                for (int n = 1; n <= 5; n++) {
                    due("feed of " + bad + " as number " + at, y.feed(n, five[0], five[1], five[2], five[3], five[4]), -2);
                }
            }
        }
        due("none came", y.count(7), 0);
    }

    private static void theTapeIsFull() {
        Edge.of(4, "A TEXT", "(160 bytes at most)");
        JustFivePounds x = new JustFivePounds();
        for (int size = 5; size <= 160; size += 5) due("feed", x.feed(5, 0, 0, 0, 0, 0), size);
        for (int n = 1; n <= 5; n++) due("feed, there being no room", x.feed(n, 0, 0, 0, 0, 0), -4);
        due("BAD is told first", x.feed(1, 0, 0, 0, 0, 256), -2);
        due("BAD is told first", x.feed(6, 0, 0, 0, 0, 0), -2);
        due("160 bytes are still a TEXT", Due.by("runs 1;late 0;costs 1" + "+1".repeat(69) + ";").asks(2, 10, 0, 0), 70);
        fault("runs 1;late 0;costs 1" + "+1".repeat(69) + "?", 159);
        Edge.of(4, "FULL: they have not all room (none comes)");
        for (int room = 0; room < 5; room++) {
            JustFivePounds y = fed(" ".repeat(160 - room));
            for (int n = room + 1; n <= 5; n++) {
                due("feed(" + n + ") with room for " + room, y.feed(n, 0, 0, 0, 0, 0), -4);
                due("none came", y.count(7), 160 - room);
            }
            if (room > 0) due("feed(" + room + ") with room for them", y.feed(room, 32, 32, 32, 32, 32), 160);
            due("nor of those refused", y.text(), -260);
        }
    }

    // ---- promise 5: text

    private static void theTapeIsEmptyBehindAText() {
        Edge.of(5, "THE TAPE, which is empty then (by a FAULT, too), is a TEXT: its number; -100 less the place of its FAULT.");
        JustFivePounds x = fed("runs 1;" + REST);
        due("text()", x.text(), 1);
        due("empty by a TEXT", x.count(7), 0);
        Due.feed(x, "runs ?");
        due("text()", x.text(), -105);
        due("empty by a FAULT", x.count(7), 0);
        due("the FAULT is no TEXT", x.count(5), 2);
        due("text() of the empty one", x.text(), -100);
        Due.feed(x, "runs 2;" + REST);
        due("nothing of it stays", x.text(), 2);
        due("THE LAW is as it was", x.count(6), 0);
        for (int turn = 0; turn < 4; turn++) {
            Due.feed(x, "runs 1" + "+1".repeat(76) + "?");
            due("a FAULT behind all", x.text(), -258);
        }
        Due.feed(x, "runs 1" + "+1".repeat(30) + ";late 2;costs 3;");
        due("nothing of them stays", x.text(), 3);
        x.force(3);
        int[] says = {31, 2, 3};
        for (int part = 0; part < 3; part++) due("nothing of them stays", x.asks(part, 10, 0, 0), says[part]);
    }

    private static void textsAreSixAtMost() {
        Edge.of(5, "TEXTS", "numbered from 0 on, 6 at most");
        JustFivePounds x = new JustFivePounds();
        for (int t = 1; t <= 5; t++) {
            Due.feed(x, "runs " + (20 + t) + ";" + REST);
            due("text()", x.text(), t);
        }
        due("count(5)", x.count(5), 6);
        Edge.of(5, "FULL (ahead of the FAULT; then THE TAPE stays).");
        due("text() of the empty tape", x.text(), -4);
        Due.feed(x, "runs 9;" + REST);
        int size = x.count(7);
        due("text() of a TEXT", x.text(), -4);
        due("THE TAPE stays", x.count(7), size);
        Due.feed(x, "?");
        due("text() of a FAULT", x.text(), -4);
        due("THE TAPE stays", x.count(7), size + 1);
        due("count(5)", x.count(5), 6);
        for (int t = 1; t <= 5; t++) {
            x.force(t);
            due("a TEXT stays", x.asks(0, 10, 0, 0), 20 + t);
        }
    }

    private static void tokensAreAsLongAsCanBe() {
        Edge.of(5, "A TEXT", "each as long as can be");
        fault("runs notnot 1;" + REST, 5);
        fault("runs 1 andnot 1;" + REST, 7);
        fault("runs offover;" + REST, 5);
        fault("runslate 1;" + REST, 0);
        stands("runs1and 2or 3and(not 4)or off;" + REST);
        due("12 is one NUMBER", Due.by("runs 12;" + REST).asks(0, 10, 0, 0), 12);
        fault("runs 1 2;" + REST, 7);
        Edge.of(5, "A TEXT", "more than 4 are too long");
        stands("runs 9999;" + REST);
        stands("runs 0000;" + REST);
        fault("runs 10000;" + REST, 5);
        fault("runs 00000;" + REST, 5);
        fault("runs 1+" + "1".repeat(100) + ";" + REST, 7);
        Edge.of(5, "A TEXT", "blanks (32, 10) may stand between");
        stands(" \n runs\n\n1 ; late 0\n;costs  0 ;\n \n");
        fault("runs 1 0;" + REST, 7);
        fault("ru ns 1;" + REST, 0);
        for (int other : new int[] {0, 9, 11, 12, 13, 31, 33, 127, 133, 160}) {
            fault("runs" + (char) other + "1;" + REST, 4);
            fault("runs 1;" + REST + (char) other, 22);
        }
    }

    private static void oneComparisonStands() {
        Edge.of(5, "A TEXT", "SUM, perhaps < or = and a SUM");
        stands("runs 1;" + REST);
        stands("runs 1<2;" + REST);
        stands("runs 1=2;" + REST);
        for (String two : new String[] {"1<2<3", "1<2=3", "1=2<3", "1=2=3"}) fault("runs " + two + ";" + REST, 8);
        stands("runs (1<2)<(3=4);" + REST);
        stands("runs 1<2 and 3=4 or not 5<6;" + REST);
        fault("runs <1;" + REST, 5);
        fault("runs 1=;" + REST, 7);
    }

    private static void theFirstFaultIsTold() {
        Edge.of(5, "FAULT", "the place of the first byte of the first TOKEN that can't stand there");
        fault("runs 1 costs;" + REST, 7);
        fault("runs ) ?;" + REST, 5);
        fault("runs 1 ) 12345", 7);
        fault("runs * 9999 (", 5);
        fault("runs (1 or) 2;" + REST, 10);
        for (String lacks : new String[] {"", "1 or", "1 and", "not", "1<", "1=", "1+", "1-", "1*", "-", "()", "(1+)", "(1 or)", "(not)"}) {
            fault("runs " + lacks + ";" + REST, 5 + lacks.length() - (lacks.endsWith(")") ? 1 : 0));
        }
        for (String no : new String[] {"1", "notch", "not", "and", "late", "costs", "(", "-", "<", ";"}) {
            fault(no + " 1;" + REST, 0);
            if (!no.equals("late")) fault("runs 1;" + no + " 0;costs 0;", 7);
            if (!no.equals("costs")) fault("runs 1;late 0;" + no + " 0;", 14);
        }
        fault(";", 0);
        fault("late 1;runs 1;costs 0;", 0);
        fault("runs 1;" + REST + "runs 1;", 22);
        fault("runs 1;" + REST + ";", 22);
        Edge.of(5, "FAULT", "(the text's size, if it ends too early)");
        fault("", 0);
        fault(" ", 1);
        fault(" ".repeat(160), 160);
        for (String early : new String[] {"runs", "runs ", "runs 1", "runs 1 \n", "runs 1;", "runs (", "runs (1", "runs not",
            "runs -", "runs 1+", "runs 1 or", "runs 1 and ", "runs 1<", "runs 1=", "runs 2*", "runs 1;late", "runs 1;late 0",
            "runs 1;late 0;", "runs 1;late 0;costs", "runs 1;late 0;costs 0", "runs 1;late 0;costs 0 "}) {
            fault(early, early.length());
        }
    }

    /** Each of the 256 bytes where a ONE is due. */
    private static void aByteMayBeginNone() {
        Edge.of(5, "FAULT", "also of a byte that begins none");
        for (int b = 0; b < 256; b++) {
            String text = "runs " + (char) b + ";" + REST;
            boolean blank = b == 32 || b == 10, opens = b == '(' || b == '-', digit = b >= '0' && b <= '9';
            if (digit) stands(text);
            else fault(text, blank || opens ? 6 : 5);
        }
        for (int b = 128; b < 256; b++) fault("runs 1;" + REST + (char) b, 22);
        fault("runs 1;" + REST + "?", 22);
    }

    private static void aWordMayBeNone() {
        Edge.of(5, "FAULT", "a WORD that is neither KEY nor NAME");
        for (String no : new String[] {"notc", "notches", "afte", "afters", "of", "offs", "ove", "overs", "mor", "mores", "pric",
            "prices", "no", "nott", "a", "z", "x", "mark", "sum", "offz", "zoff", "offa", "aoff", "pore", "mare",
            "morf", "xff", "runs", "late", "costs", "and", "or"}) {
            fault("runs " + no + ";" + REST, 5);
        }
        for (String no : new String[] {"an", "ands", "o", "ors", "nor", "b"}) fault("runs 1 " + no + " 1;" + REST, 7);
        for (String no : new String[] {"run", "runss", "r", "rans"}) fault(no + " 1;" + REST, 0);
        for (String no : new String[] {"lat", "latee", "l", "lane"}) fault("runs 1;" + no + " 0;costs 0;", 7);
        for (String no : new String[] {"cost", "costss", "c", "costa"}) fault("runs 1;late 0;" + no + " 0;", 14);
        for (String yes : new String[] {"notch", "after", "off", "over", "more", "price"}) stands("runs " + yes + ";" + REST);
        Edge.of(5, "FAULT", "a NUMBER that is too long");
        fault("runs 12345;" + REST, 5);
        fault("runs 1;late 00012;costs 0;", 12);
        fault("runs 1;late 0;costs 1234 + 99999;", 27);
    }

    private static void fiveMayBeOpen() {
        Edge.of(5, "FAULT", "a ( , a not, a - ahead of a ONE while 5 of these are open");
        String[] fives = {"(((((", "not not not not not ", "-----", "not not((-", "((-(-", "not(not(-"};
        for (String open : fives) {
            int closed = (int) open.chars().filter(c -> c == '(').count();
            stands("runs " + open + "1" + ")".repeat(closed) + ";" + REST);
            fault("runs " + open + "(1)" + ")".repeat(closed) + ";" + REST, 5 + open.length());
            fault("runs " + open + "-1" + ")".repeat(closed) + ";" + REST, 5 + open.length());
            stands("runs " + open + "1-1" + ")".repeat(closed) + ";" + REST);
        }
        for (String open : new String[] {"(((((", "not not not not not ", "not(((("}) {
            fault("runs " + open + "not 1", 5 + open.length());
        }
        Edge.of(5, "FAULT", "(a ( till its ) , not and - till what they belong to ends)");
        stands("runs (((((1)))))+(((((1)))))<(((((1)))));" + REST);
        stands("runs (((((1))+((1)+(1)+1))));" + REST);
        fault("runs (((((1))+(((1)+1)+1))));" + REST, 16);
        stands("runs -----1------1*-----1;" + REST);
        stands("runs -1*(((((1)))));" + REST);
        stands("runs -1<(((((1)))));" + REST);
        stands("runs -(1)+(((((1)))));" + REST);
        fault("runs -(((((1)))));" + REST, 10);
        fault("runs not 1<(((((1)))));" + REST, 15);
        fault("runs not 1+1*(((((1)))));" + REST, 17);
        stands("runs not 1 and(((((1)))));" + REST);
        stands("runs not 1 or not 1<((((1))))or(((((1)))));" + REST);
    }

    // ---- promises 6 and 7: force, asks

    private static void forceRefuses() {
        Edge.of(6, "A TEXT is THE LAW: which was. BAD.");
        JustFivePounds x = fed("runs 9;" + REST);
        due("force(1), the TAPE being no TEXT yet", x.force(1), -2);
        x.text();
        due("force(1)", x.force(1), 0);
        due("force(1)", x.force(1), 1);
        for (int t : Edge.beside(0, 1)) due("force(" + t + ")", x.force(t), -2);
        due("THE LAW is as it was", x.count(6), 1);
        due("force(0)", x.force(0), 1);
    }

    private static void asksIsWithinItsLimits() {
        Edge.of(7, "(notchAfter: 10 times notch, 1 .. 3, and after, 0 .. 4; offOver: 10 times off, 0 .. 999, and over, 0, 1; MORE; "
                + "all as told, of whatever part). BAD.");
        JustFivePounds x = Due.by("runs notch+after+off+over+more;late notch+after+off+over+more;costs notch+after+off+over+more;");
        for (int part = 0; part < 3; part++) {
            due("the least of all", x.asks(part, 10, 0, 0), 1);
            due("of each", x.asks(part, 21, 11, 2), 2 + 1 + 1 + 1 + 2);
            due("the most", x.asks(part, 34, 9991, 9), new int[] {50, 9, 999}[part]);
            for (int notch = 0; notch <= 4; notch++) {
                for (int after = 0; after <= 9; after++) {
                    boolean told = notch >= 1 && notch <= 3 && after <= 4;
                    due("notch " + notch + ", after " + after, x.asks(part, 10 * notch + after, 0, 0), told ? Math.min(notch + after,
                            part == 1 ? 9 : 50) : -2);
                }
            }
            for (int over = 2; over <= 9; over++) due("over " + over, x.asks(part, 10, over, 0), -2);
            for (int bad : new int[] {-1, -10, 10000, 10001, Integer.MIN_VALUE, Integer.MAX_VALUE}) {
                due("offOver " + bad, x.asks(part, 10, bad, 0), -2);
                due("notchAfter " + bad, x.asks(part, bad, 0, 0), -2);
            }
            for (int bad : Edge.beside(0, 9)) due("MORE " + bad, x.asks(part, 10, 0, bad), -2);
        }
        for (int bad : Edge.beside(0, 2)) due("part " + bad, x.asks(bad, 10, 0, 0), -2);
        Edge.of(7, "TEXTS", "price: PRICE");
        JustFivePounds y = Due.by("runs price;late price;costs price;");
        int[] prices = {1, 9, 10, 50, 51, 99};
        for (int price : prices) {
            y.set(2, price);
            due("runs", y.asks(0, 10, 0, 0), Math.min(50, price));
            due("late", y.asks(1, 10, 0, 0), Math.min(9, price));
            due("costs", y.asks(2, 10, 0, 0), price);
        }
        due("off 999", Due.by("runs 1;late 0;costs off;").asks(2, 10, 9990, 0), 999);
        due("off 999, over 1", Due.by("runs 1;late 0;costs 1000*over-off;").asks(2, 10, 9991, 0), 1);
    }

    private static void whatIsSaidIsBounded() {
        Edge.of(7, "TEXTS", "(runs 1 .. 50, late 0 .. 9, costs 0 .. 999, else the bound)");
        int[] least = {1, 0, 0}, most = {50, 9, 999};
        for (int part = 0; part < 3; part++) {
            for (int by = -2; by <= 1002; by++) {
                if (Math.abs(by - least[part]) > 2 && Math.abs(by - most[part]) > 2) continue;
                String e = by < 0 ? "0-" + -by + ";" : by + ";";
                JustFivePounds x = Due.by("runs " + e + "late " + e + "costs " + e);
                due(by + " of part " + part, x.asks(part, 10, 0, 0), Math.max(least[part], Math.min(most[part], by)));
            }
        }
    }

    private static void anIntWraps() {
        Edge.of(7, "A TEXT", "An E is an int (32 bits, wrapping)");
        // 9999 * 9999 * 43 is 4299140043, which is 4294967296 and 4172747 more
        says("9999*9999*43-4172*1000", 747);
        says("0<9999*9999*43", 1);
        // 2048 * 1024 * 1024 is 2147483648: the least int
        says("2048*1024*1024<0", 1);
        says("0<2048*1024*1024-1", 1);
        says("-(2048*1024*1024)=2048*1024*1024", 1);
        says("2048*1024*1024<1", 1);
        says("2048*1024*1024+2048*1024*1024", 0);
        says("2048*1024*1024", 0);
        says("2048*1024*1024-1", 999);
        says("4096*1024*1024+5", 5);
        Edge.of(7, "A TEXT", "of or, and, not, <, = 1 or 0 (what is not 0 is true)");
        says("7 or 0", 1);
        says("0 or -7", 1);
        says("0 or 0", 0);
        says("1 and 2", 1);
        says("-1 and 1", 1);
        says("7 and 0", 0);
        says("0 and 7", 0);
        says("not 0", 1);
        says("not 7", 0);
        says("not -1", 0);
        says("not not 7", 1);
        says("2<3", 1);
        says("3<3", 0);
        says("4<3", 0);
        says("3=3", 1);
        says("3=4", 0);
        says("(7)", 7);
    }

    // ---- promises 8 to 10: hands

    private static void handsAreFiveAtMost() {
        Edge.of(8, "THE PUMP", "HANDS are numbered from 0 on, 5 at most");
        JustFivePounds x = new JustFivePounds();
        for (int h = 0; h < 5; h++) due("hand()", x.hand(0, h, 0), h);
        Edge.of(8, "BAD; FULL.");
        due("a sixth", x.hand(0, 0, 0), -4);
        for (int bad : Edge.beside(0, 59)) due("BAD is told first", x.hand(bad, 0, 0), -2);
        for (int bad : Edge.beside(0, 99)) due("BAD is told first", x.hand(0, bad, 0), -2);
        for (int bad : Edge.beside(0, 500)) due("BAD is told first", x.hand(0, 0, bad), -2);
        due("count(0)", x.count(0), 5);
        for (int h = 0; h < 5; h++) due("a HAND stays", x.told(h, 2), h);
    }

    private static void aHandHasItsLimits() {
        Edge.of(8, "THE PUMP", "with MORE (0 .. 9); LETS go so much AHEAD (0 .. 99), CHANGES at so much (0 .. 500)");
        JustFivePounds x = new JustFivePounds();
        due("the least of all", x.hand(0, 0, 0), 0);
        due("the most of all", x.hand(59, 99, 500), 1);
        int[] most = {5, 9, 99, 500};
        for (int what = 0; what < 4; what++) {
            due("told(0, " + what + ")", x.told(0, what), 0);
            due("told(1, " + what + ")", x.told(1, what), most[what]);
        }
        for (int bad : Edge.beside(0, 59)) due("kindMore " + bad, x.hand(bad, 0, 0), -2);
        for (int bad : Edge.beside(0, 99)) due("AHEAD " + bad, x.hand(0, bad, 0), -2);
        for (int bad : Edge.beside(0, 500)) due("CHANGES " + bad, x.hand(0, 0, bad), -2);
        due("count(0)", x.count(0), 2);
    }

    private static void trainRefuses() {
        JustFivePounds x = new JustFivePounds();
        x.hand(20, 50, 300);
        Edge.of(9, "becomes v: what it was.");
        due("AHEAD to the most", x.train(0, 0, 99), 50);
        due("AHEAD to the least", x.train(0, 0, 0), 99);
        due("CHANGES to the most", x.train(0, 1, 500), 300);
        due("CHANGES to the least", x.train(0, 1, 0), 500);
        Edge.of(9, "-5: no such HAND; -7: what, v.");
        for (int bad : Edge.beside(0, 99)) due("AHEAD " + bad, x.train(0, 0, bad), -7);
        for (int bad : Edge.beside(0, 500)) due("CHANGES " + bad, x.train(0, 1, bad), -7);
        for (int bad : Edge.beside(0, 1)) due("what " + bad, x.train(0, bad, 0), -7);
        for (int bad : Edge.beside(0, 0)) {
            due("HAND " + bad, x.train(bad, 0, 0), -5);
            due("-5 is told first", x.train(bad, 2, 0), -5);
            due("-5 is told first", x.train(bad, 0, 100), -5);
        }
        due("AHEAD is as it was", x.told(0, 2), 0);
        due("CHANGES is as it was", x.told(0, 3), 0);
    }

    private static void toldRefuses() {
        Edge.of(10, "-5: no such HAND; -7: what.");
        JustFivePounds x = new JustFivePounds();
        for (int hands = 1; hands <= 5; hands++) {
            x.hand(10 * hands + hands, hands, hands);
            due("the last HAND", x.told(hands - 1, 0), hands);
            for (int bad : Edge.beside(0, hands - 1)) {
                due("HAND " + bad + " of " + hands, x.told(bad, 0), -5);
                due("-5 is told first", x.told(bad, 4), -5);
            }
            for (int bad : Edge.beside(0, 3)) due("what " + bad, x.told(hands - 1, bad), -7);
        }
    }

    public static void main(String[] args) {
        aNewObject();
        eachOfThePumpHasItsLimits();
        countRefuses();
        feedTakesOneToFiveBytes();
        theTapeIsFull();
        theTapeIsEmptyBehindAText();
        textsAreSixAtMost();
        tokensAreAsLongAsCanBe();
        oneComparisonStands();
        theFirstFaultIsTold();
        aByteMayBeginNone();
        aWordMayBeNone();
        fiveMayBeOpen();
        forceRefuses();
        asksIsWithinItsLimits();
        whatIsSaidIsBounded();
        anIntWraps();
        handsAreFiveAtMost();
        aHandHasItsLimits();
        trainRefuses();
        toldRefuses();
        Edge.allTold(1, 10, "THE PUMP", "A TEXT", "FAULT", "TEXTS");
        Due.end("EdgePumpTest");
    }
}
