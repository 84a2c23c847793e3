/** Promises 1 to 7: a new object, the pump, the tape, texts, the law. */
public final class PumpTest {
    private static final String REST = " late 0; costs 0;";

    private static void due(String call, long got, long want) {
        Due.due(call, got, want);
    }

    /** Promise 1. */
    private static void aNewObjectHasNoHands() {
        JustFivePounds x = new JustFivePounds();
        due("count(0)", x.count(0), 0);
        due("told(0, 0)", x.told(0, 0), -5);
        due("taken(0, 0)", x.taken(0, 0), -11);
        due("who(0)", x.who(0), -1);
        JustFivePounds y = new JustFivePounds();
        x.hand(0, 0, 0);
        x.set(0, 7);
        due("another's count(0)", y.count(0), 0);
        due("another's count(1)", y.count(1), 500);
    }

    /** Promise 2. */
    private static void countTellsEach() {
        JustFivePounds x = new JustFivePounds();
        int[] first = {0, 500, 1, 40, 5000, 1, 0, 0};
        for (int what = 0; what < 8; what++) due("new count(" + what + ")", x.count(what), first[what]);
        x.hand(0, 0, 0);
        x.hand(10, 0, 0);
        x.set(0, 601);
        x.set(1, 2);
        x.set(2, 33);
        x.set(3, 700);
        Due.by(x, "runs 1;" + REST);
        x.feed(3, 1, 2, 3, 4, 5);
        int[] then = {2, 601, 2, 33, 700, 2, 1, 3};
        for (int what = 0; what < 8; what++) due("then count(" + what + ")", x.count(what), then[what]);
        for (int what : new int[] {-1, 8, Integer.MIN_VALUE, Integer.MAX_VALUE}) due("count(" + what + ")", x.count(what), -2);
    }

    /** Promise 3. */
    private static void setTakesWhatIsWithin() {
        int[] least = {1, 0, 1, 1}, most = {2000, 9, 99, 5000}, first = {500, 1, 40, 5000};
        for (int what = 0; what < 4; what++) {
            JustFivePounds x = new JustFivePounds();
            due("set least", x.set(what, least[what]), first[what]);
            due("count", x.count(what + 1), least[what]);
            due("set most", x.set(what, most[what]), least[what]);
            due("set too little", x.set(what, least[what] - 1), -7);
            due("set too much", x.set(what, most[what] + 1), -7);
            due("set far too much", x.set(what, Integer.MAX_VALUE), -7);
            due("set far too little", x.set(what, Integer.MIN_VALUE), -7);
            due("count stays", x.count(what + 1), most[what]);
            for (int other = 0; other < 4; other++) {
                if (other != what) due("another stays", x.count(other + 1), first[other]);
            }
        }
        JustFivePounds x = new JustFivePounds();
        for (int what : new int[] {-1, 4, Integer.MIN_VALUE, Integer.MAX_VALUE}) {
            due("set(" + what + ", 1)", x.set(what, 1), -5);
            due("set(" + what + ", -1): the first one told", x.set(what, -1), -5);
        }
    }

    /** Promise 4. */
    private static void feedComesBehind() {
        JustFivePounds x = new JustFivePounds();
        due("feed none", x.feed(0, 1, 1, 1, 1, 1), -2);
        due("feed six", x.feed(6, 1, 1, 1, 1, 1), -2);
        due("feed below none", x.feed(Integer.MIN_VALUE, 1, 1, 1, 1, 1), -2);
        due("feed far too many", x.feed(Integer.MAX_VALUE, 1, 1, 1, 1, 1), -2);
        for (int bad : new int[] {-1, 256, Integer.MIN_VALUE, Integer.MAX_VALUE}) {
            due("a", x.feed(1, bad, 0, 0, 0, 0), -2);
            due("b", x.feed(1, 0, bad, 0, 0, 0), -2);
            due("c", x.feed(1, 0, 0, bad, 0, 0), -2);
            due("d", x.feed(1, 0, 0, 0, bad, 0), -2);
            due("e", x.feed(1, 0, 0, 0, 0, bad), -2);
        }
        due("nothing came", x.count(7), 0);
        due("feed 1", x.feed(1, 0, 255, 0, 255, 0), 1);
        due("feed 2", x.feed(2, 255, 0, 255, 0, 255), 3);
        due("feed 3", x.feed(3, 0, 0, 0, 0, 0), 6);
        due("feed 4", x.feed(4, 0, 0, 0, 0, 0), 10);
        for (int size = 15; size <= 155; size += 5) due("feed 5", x.feed(5, 0, 0, 0, 0, 0), size);
        due("feed 3", x.feed(3, 32, 32, 32, 0, 0), 158);
        due("no room for 3", x.feed(3, 0, 0, 0, 0, 0), -4);
        due("none of them came", x.count(7), 158);
        due("BAD ahead of FULL", x.feed(3, 0, 0, 0, 0, 256), -2);
        due("room for 2", x.feed(2, 0, 0, 0, 0, 0), 160);
        due("no room for 1", x.feed(1, 0, 0, 0, 0, 0), -4);
        JustFivePounds y = new JustFivePounds();
        y.feed(5, 'r', 'u', 'n', 's', '0');
        y.feed(1, ';', 'x', 'x', 'x', 'x');
        y.feed(3, 'l', 'a', 't', 'x', 'x');
        y.feed(2, 'e', '7', 'x', 'x', 'x');
        y.feed(4, ';', 'c', 'o', 's', 'x');
        y.feed(5, 't', 's', '8', '9', ';');
        due("one by one, each behind the last", y.text(), 1);
        y.force(1);
        due("runs", y.asks(0, 10, 0, 0), 1);
        due("late", y.asks(1, 10, 0, 0), 7);
        due("costs", y.asks(2, 10, 0, 0), 89);
    }

    private static void fault(String text, int place) {
        JustFivePounds x = new JustFivePounds();
        Due.feed(x, text);
        due("text of '" + text + "'", x.text(), -100 - place);
        due("the tape is empty", x.count(7), 0);
        due("no text came", x.count(5), 1);
    }

    private static void stands(String text) {
        JustFivePounds x = new JustFivePounds();
        Due.feed(x, text);
        due("text of '" + text + "'", x.text(), 1);
        due("the tape is empty", x.count(7), 0);
        due("a text came", x.count(5), 2);
        due("and is not THE LAW", x.count(6), 0);
    }

    /** Promise 5: what is a text and where the fault is. */
    private static void textsStandOrHaveAFault() {
        stands("runs 1;late 0;costs 0;");
        stands("runs1;late0;costs0;");
        stands("  runs\n1 ; late\n\n0;costs 0;  \n");
        stands("runs 9999; late 0000; costs 0;");
        stands("runs notch+after-off*over<more;" + REST);
        stands("runs price = more;" + REST);
        fault("", 0);
        fault("   ", 3);
        fault("late 1;", 0);
        fault("  costs 1;", 2);
        fault("runs", 4);
        fault("runs 1", 6);
        fault("runs 1 \n", 8);
        fault("runs 1;", 7);
        fault("runs ;", 5);
        fault("runs 1; costs 0;", 8);
        fault("runs 1; late 0; late 0;", 16);
        fault("runs 1; late 0; costs 0; 1", 25);
        fault("runs 1; late 0; costs 0;;", 24);
        fault("runs 1; late 0; costs 0; runs", 25);
        fault("runs 1; late 0; costs 0;\t", 24);
        fault("runs 1; late 0; costs 0", 23);
        fault("runs 12345;" + REST, 5);
        fault("runs 00001;" + REST, 5);
        fault("runs 1 + 12345;" + REST, 9);
        fault("runs Notch;" + REST, 5);
        fault("runs notcH;" + REST, 5);
        fault("runs no;" + REST, 5);
        fault("runs notchs;" + REST, 5);
        fault("runs pric;" + REST, 5);
        fault("runs prices;" + REST, 5);
        fault("runs x;" + REST, 5);
        fault("runs 1\t;" + REST, 6);
        fault("runs 1>0;" + REST, 6);
        fault("runs 1/1;" + REST, 6);
        fault("runs 1,", 6);
        fault("runs \u0000", 5);
        fault("runs 1 \u00ff", 7);
        fault("runs `;", 5);
        fault("runs {;", 5);
        fault("runs :;", 5);
        fault("RUNS 1;" + REST, 0);
        fault("run 1;" + REST, 0);
        fault("runs 1 2;" + REST, 7);
        fault("runs off2;" + REST, 8);
        fault("runs 2off;" + REST, 6);
        fault("runs off over;" + REST, 9);
        fault("runs 1 +;" + REST, 8);
        fault("runs 1 + + 1;" + REST, 9);
        fault("runs * 1;" + REST, 5);
        fault("runs + 1;" + REST, 5);
        fault("runs 1 and;" + REST, 10);
        fault("runs and 1;" + REST, 5);
        fault("runs 1 or or 1;" + REST, 10);
        fault("runs 1 not;" + REST, 7);
        fault("runs 1 not 1;" + REST, 7);
        fault("runs 1<2<3;" + REST, 8);
        fault("runs 1=2=3;" + REST, 8);
        fault("runs 1<2=3;" + REST, 8);
        fault("runs 1 < not 2;" + REST, 9);
        fault("runs 1 + not 2;" + REST, 9);
        fault("runs 2 * not 2;" + REST, 9);
        fault("runs - not 1;" + REST, 7);
        fault("runs not;" + REST, 8);
        fault("runs (1;" + REST, 7);
        fault("runs 1);" + REST, 6);
        fault("runs ();" + REST, 6);
        fault("runs (1 2);" + REST, 8);
        fault("runs runs;" + REST, 5);
        fault("runs costs 1;" + REST, 5);
        fault("runs late 1;" + REST, 5);
        fault("not 1;", 0);
        fault("runs 1; not 0;", 8);
        fault("runs 1; late 0; not 0;", 16);
        fault("runs offz;" + REST, 5);
        fault("runs aoff;" + REST, 5);
        fault("runs pore;" + REST, 5);
        fault("runs mare;" + REST, 5);
        fault("runs morf;" + REST, 5);
        fault("runs 1 or;" + REST, 9);
        fault("runs 1<;" + REST, 7);
        fault("runs 1=;" + REST, 7);
        fault("runs 2*;" + REST, 7);
        fault("runs 2-;" + REST, 7);
        fault("runs -;" + REST, 6);
        fault("runs (1 or);" + REST, 10);
        fault("runs 1 late 0;", 7);
        fault("runs (late);" + REST, 6);
    }

    /** Promise 5: ( , not, - that are open, five at most. */
    private static void fiveMayBeOpen() {
        stands("runs (((((1)))));" + REST);
        fault("runs ((((((1))))));" + REST, 10);
        stands("runs not not not not not 1;" + REST);
        fault("runs not not not not not not 1;" + REST, 25);
        stands("runs -----1;" + REST);
        fault("runs ------1;" + REST, 10);
        stands("runs not (-(-1));" + REST);
        fault("runs not (-(-(1)));" + REST, 13);
        fault("runs not (-(--1));" + REST, 13);
        fault("runs ((((-(1)))));" + REST, 10);
        fault("runs (((((not 1)))));" + REST, 10);
        fault("runs (((((-1)))));" + REST, 10);
        stands("runs (((((1-1)))));" + REST);
        stands("runs (1)+(1)+(1)+(1)+(1)+(1)+(1);" + REST);
        stands("runs -1+-1+-1+-1+-1+-1--1*-1;" + REST);
        stands("runs not 1 and not 1 and not 1 and not 1 or not 1 or not 1;" + REST);
        stands("runs ((((1)))) + ((((1))));" + REST);
        fault("runs ((((1)))) + ((((((1))))));" + REST, 22);
        fault("runs not 1 < (((((1)))));" + REST, 17);
        stands("runs not 1 and (((((1)))));" + REST);
        fault("runs - (((((1)))));" + REST, 11);
        stands("runs -1 * (((((1)))));" + REST);
    }

    /** Promise 5: numbers, FULL. */
    private static void textsAreSixAtMost() {
        JustFivePounds x = new JustFivePounds();
        for (int t = 1; t < 6; t++) {
            Due.feed(x, "runs x;");
            due("a fault takes no number", x.text(), -105);
            Due.feed(x, "runs " + t + ";" + REST);
            due("text", x.text(), t);
        }
        due("texts", x.count(5), 6);
        JustFivePounds y = new JustFivePounds();
        for (int turn = 0; turn < 4; turn++) {
            Due.feed(y, "runs 1" + "+1".repeat(76) + "x");
            due("a long fault", y.text(), -258);
        }
        Due.feed(y, "runs 1" + "+1".repeat(30) + "; late 2; costs 3;");
        due("leaves nothing behind", y.text(), 1);
        y.force(1);
        due("runs", y.asks(0, 10, 0, 0), 31);
        due("late", y.asks(1, 10, 0, 0), 2);
        due("costs", y.asks(2, 10, 0, 0), 3);
        due("FULL, the tape being empty", x.text(), -4);
        Due.feed(x, "runs x;");
        due("FULL ahead of the FAULT", x.text(), -4);
        due("the tape stays", x.count(7), 7);
        for (int t = 0; t < 6; t++) {
            x.force(t);
            due("runs of text " + t, x.asks(0, 10, 0, 0), t == 0 ? 3 : t);
        }
    }

    /** Promise 6. */
    private static void forceTellsWhichWas() {
        JustFivePounds x = new JustFivePounds();
        due("force none such", x.force(1), -2);
        due("force itself", x.force(0), 0);
        Due.feed(x, "runs 9;" + REST);
        x.text();
        Due.feed(x, "runs 8;" + REST);
        x.text();
        due("force(2)", x.force(2), 0);
        due("runs", x.asks(0, 10, 0, 0), 8);
        due("force(1)", x.force(1), 2);
        due("runs", x.asks(0, 10, 0, 0), 9);
        for (int t : new int[] {-1, 3, 6, Integer.MIN_VALUE, Integer.MAX_VALUE}) due("force(" + t + ")", x.force(t), -2);
        due("count(6)", x.count(6), 1);
    }

    /** What an E of this writing is, asked as costs; its value 0 .. 999. */
    private static void says(String e, int want) {
        JustFivePounds x = Due.by("runs 1; late 0; costs " + e + ";");
        due("costs " + e, x.asks(2, 23, 1001, 7), want);
    }

    /** Promises 5 and 7: what texts say. Asked with notch 2, after 3, off 100, over 1, more 7, price 40. */
    private static void textsSay() {
        says("notch", 2);
        says("after", 3);
        says("off", 100);
        says("over", 1);
        says("more", 7);
        says("price", 40);
        says("0123", 123);
        says("1 or 2", 1);
        says("0 or 2", 1);
        says("2 or 0", 1);
        says("0 or 0", 0);
        says("2 and 3", 1);
        says("2 and 0", 0);
        says("0 and 2", 0);
        says("0 and 0", 0);
        says("not 5", 0);
        says("not 0", 1);
        says("not -1", 0);
        says("not not 5", 1);
        says("-1 and 1", 1);
        says("3 < 4", 1);
        says("4 < 4", 0);
        says("5 < 4", 0);
        says("-5 < 4", 1);
        says("4 = 4", 1);
        says("4 = 5", 0);
        says("2 + 3 * 4", 14);
        says("2 * 3 + 4", 10);
        says("(2 + 3) * 4", 20);
        says("20 - 3 - 4", 13);
        says("20 - (3 - 4)", 21);
        says("20 - 3 + 4", 21);
        says("2 - - 3", 5);
        says("-2 * -3", 6);
        says("10 + -2 * 3", 4);
        says("1 + 2 < 4", 1);
        says("(1 < 2) + 5", 6);
        says("1 < 2 + 5", 1);
        says("1 or 0 and 0", 1);
        says("0 and 0 or 1", 1);
        says("0 and (0 or 1)", 0);
        says("not 0 and 0", 0);
        says("not (0 and 0)", 1);
        says("not 0 or 1", 1);
        says("not 1 = 2", 1);
        says("(not 1) = 2", 0);
        says("not 0 + 1", 0);
        says("7", 7);
        says("9999", 999);
        says("1000", 999);
        says("999", 999);
        says("-1", 0);
        says("0", 0);
        // 9999 * 9999 * 43 is 4299140043, which wraps to 4172747; * 22 is 2199560022, to -2095407274
        says("9999*9999*43 = 4172*1000 + 747", 1);
        says("9999*9999*22 < 0", 1);
    }

    /** Promise 7: the bounds and the first text. */
    private static void asksIsBounded() {
        JustFivePounds x = new JustFivePounds();
        due("runs 1", x.asks(0, 10, 0, 0), 3);
        due("runs 2", x.asks(0, 20, 0, 0), 12);
        due("runs 3", x.asks(0, 30, 0, 0), 27);
        for (int after = 0; after < 5; after++) due("late", x.asks(1, 10 + after, 0, 0), Math.max(0, 3 - after));
        due("costs", x.asks(2, 10, 310, 0), 961);
        due("costs most", x.asks(2, 10, 320, 0), 999);
        due("costs far most", x.asks(2, 34, 9991, 9), 999);
        JustFivePounds low = Due.by("runs 0; late -1; costs -1;"), high = Due.by("runs 51; late 10; costs 1000;");
        JustFivePounds least = Due.by("runs 1; late 0; costs 0;"), most = Due.by("runs 50; late 9; costs 999;");
        int[] leasts = {1, 0, 0}, mosts = {50, 9, 999};
        for (int part = 0; part < 3; part++) {
            due("too low", low.asks(part, 10, 0, 0), leasts[part]);
            due("least", least.asks(part, 10, 0, 0), leasts[part]);
            due("too high", high.asks(part, 10, 0, 0), mosts[part]);
            due("most", most.asks(part, 10, 0, 0), mosts[part]);
        }
        JustFivePounds all = Due.by("runs notch+after+off+over+more; late notch+after+off+over+more; costs notch+after+off+over+more;");
        due("all as told, of runs", all.asks(0, 24, 101, 7), 2 + 4 + 10 + 1 + 7);
        due("all as told, of late", all.asks(1, 11, 11, 2), 1 + 1 + 1 + 1 + 2);
        due("all as told, of costs", all.asks(2, 34, 9001, 9), 3 + 4 + 900 + 1 + 9);
        JustFivePounds price = Due.by("runs price; late price; costs price;");
        price.set(2, 8);
        for (int part = 0; part < 3; part++) due("price", price.asks(part, 10, 0, 0), 8);
        due("not of its hands", new JustFivePounds().asks(0, 20, 0, 9), 12);
    }

    /** Promise 7: the refusals. */
    private static void asksRefuses() {
        JustFivePounds x = new JustFivePounds();
        int[] far = {Integer.MIN_VALUE, Integer.MAX_VALUE};
        for (int part : new int[] {-1, 3, far[0], far[1]}) due("part " + part, x.asks(part, 10, 0, 0), -2);
        for (int part = 0; part < 3; part++) {
            for (int na : new int[] {-1, 0, 4, 9, 15, 19, 25, 39, 35, 40, 110, -10, far[0], far[1]}) {
                due("notchAfter " + na, x.asks(part, na, 0, 0), -2);
            }
            for (int oo : new int[] {-1, 2, 9, 12, 9992, 10000, -10, far[0], far[1]}) {
                due("offOver " + oo, x.asks(part, 10, oo, 0), -2);
            }
            for (int more : new int[] {-1, 10, far[0], far[1]}) due("more " + more, x.asks(part, 10, 0, more), -2);
            due("the least", x.asks(part, 10, 0, 0) >= 0 ? 1 : 0, 1);
            due("the most", x.asks(part, 34, 9991, 9) >= 0 ? 1 : 0, 1);
        }
    }

    public static void main(String[] args) {
        aNewObjectHasNoHands();
        countTellsEach();
        setTakesWhatIsWithin();
        feedComesBehind();
        textsStandOrHaveAFault();
        fiveMayBeOpen();
        textsAreSixAtMost();
        forceTellsWhichWas();
        textsSay();
        asksIsBounded();
        asksRefuses();
        Due.end("PumpTest");
    }
}
