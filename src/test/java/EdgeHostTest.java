import java.util.ArrayList;
import java.util.LinkedHashMap;
import java.util.List;
import java.util.Map;
import java.util.function.ToLongFunction;

/** The edges that promises 38 to 42 name, sentence by sentence, and what is said of all refusals and of all that is asked. */
public final class EdgeHostTest {
    private static final long NO = JustFivePounds.NO;
    private static final String TENS = "runs 10;late 1;costs off;";

    /** A call of the document, by what is written of it. */
    private interface Call extends ToLongFunction<JustFivePounds> {
    }

    private static void due(String call, long got, long want) {
        Edge.due(call, got, want);
    }

    /** One that stops at MARK alone, so that judge() tells whether a row holds just that. */
    private static JustFivePounds exact() {
        JustFivePounds x = Due.by("runs 1;late after=0;costs off;");
        x.set(1, 0);
        x.hand(0, 0, 0);
        return x;
    }

    /** What stands in a row of exact()'s: 0 .. 2000, and -1 for any other. */
    private static void holds(JustFivePounds x, int s, int sort, int... want) {
        due("none behind the last", x.cell(s, want.length, 0), -12);
        for (int i = 0; i < want.length; i++) {
            x.sheet(3, sort, 1);
            due("place " + i + " is there", x.copy(s, i, 3, 0, 1), 1);
            x.train(0, 0, want[i] == 0 ? 1 : 0);
            x.set(0, Math.max(1, want[i]));
            due("place " + i + " holds " + want[i], x.judge(3, 0), want[i] < 0 ? 0 : -1);
        }
        x.train(0, 0, 0);
    }

    // ---- promises 38 and 39: sheet, cell

    private static void sheetsAreMissingAtFirst() {
        Edge.of(38, "SHEETS", "SHEETS 0 .. 3 are rows of numbers, or missing (as all are at first): of sort 0 bytes, 1 shorts, 2 ints, "
                + "40 at most");
        JustFivePounds x = exact();
        for (int s = 0; s < 4; s++) {
            due("missing at first", x.cell(s, 0, 0), -11);
            due("missing at first", x.judge(s, 0), -11);
            due("missing at first", x.parts(s, 0), NO);
            for (int sort = 0; sort < 3; sort++) {
                due("40", x.sheet(s, sort, 40), 1);
                due("the last place", x.cell(s, 39, 1), 1);
                due("none behind", x.cell(s, 40, 1), -12);
                for (int other = 0; other < 3; other++) due("its sort", x.handsBy(s, other, 0, 0), other == sort ? 0 : -13);
                due("none at all", x.sheet(s, sort, 0), 1);
                due("no place", x.cell(s, 0, 1), -12);
            }
        }
    }

    private static void sheetRefuses() {
        JustFivePounds x = exact();
        Edge.of(38, "or missing (sort -1: n does not matter): 1");
        for (int n : new int[] {0, 40, 41, -1, Integer.MIN_VALUE, Integer.MAX_VALUE}) {
            x.sheet(0, 2, 5);
            due("sheet(0, -1, " + n + ")", x.sheet(0, -1, n), 1);
            due("missing", x.cell(0, 0, 0), -11);
            due("sheet(0, -1, " + n + ") again", x.sheet(0, -1, n), 1);
        }
        Edge.of(38, "BAD: SHEET, sort, n above 40; -14.");
        for (int sort = 0; sort < 3; sort++) {
            Due.row(x, 1, sort, 7, 8);
            due("n 41", x.sheet(1, sort, 41), -2);
            due("n far above 40", x.sheet(1, sort, Integer.MAX_VALUE), -2);
            due("n -1", x.sheet(1, sort, -1), -14);
            due("n far below 0", x.sheet(1, sort, Integer.MIN_VALUE), -14);
            for (int bad : Edge.beside(-1, 2)) {
                due("sort " + bad, x.sheet(1, bad, 1), -2);
                due("BAD is told first", x.sheet(1, bad, -1), -2);
            }
            for (int bad : Edge.beside(0, 3)) {
                due("SHEET " + bad, x.sheet(bad, sort, 1), -2);
                due("BAD is told first", x.sheet(bad, sort, -1), -2);
                due("SHEET " + bad, x.sheet(bad, -1, 1), -2);
            }
            holds(x, 1, sort, 7, 8);
        }
        Edge.of(38, "A SHEET becomes a row of n of a sort, all 0");
        for (int sort = 0; sort < 3; sort++) {
            Due.row(x, 1, 2, 7, 8, 9);
            x.sheet(1, sort, 3);
            holds(x, 1, sort, 0, 0, 0);
        }
        x.film(1, 0);
        x.sheet(1, 2, 2);
        holds(x, 1, 2, 0, 0);
    }

    private static void cellIsCutToItsSort() {
        Edge.of(39, "(of bytes, shorts its lowest 8, 16 bits)");
        JustFivePounds x = exact();
        int[] numbers = {127, 128, 255, 256, 257, 383, 384, -1, -129, 32767, 65535, 65536, 65537, 131071, 65536 + 1000,
            Integer.MIN_VALUE, Integer.MAX_VALUE, Integer.MIN_VALUE + 5};
        Due.row(x, 0, 0, numbers);
        holds(x, 0, 0, 127, -1, -1, 0, 1, 127, -1, -1, 127, -1, -1, 0, 1, -1, -1, 0, -1, 5);
        Due.row(x, 0, 1, numbers);
        holds(x, 0, 1, 127, 128, 255, 256, 257, 383, 384, -1, -1, -1, -1, 0, 1, -1, 1000, 0, -1, 5);
        Due.row(x, 0, 2, numbers);
        holds(x, 0, 2, 127, 128, 255, 256, 257, 383, 384, -1, -1, -1, -1, -1, -1, -1, -1, -1, -1, -1);
        JustFivePounds far = Due.by("runs 50;late after=0;costs 0;");
        far.set(1, 0);
        far.set(0, 200);
        far.hand(0, 0, 0);
        due("END", far.stops(0, 0, 0), 200);
        for (int sort = 0; sort < 3; sort++) {
            Due.row(far, 0, sort, 200);
            // the lowest 8 bits of 200 are -56 in a row of bytes
            due("200 in a row of sort " + sort, far.judge(0, 0), sort == 0 ? 0 : -1);
            Due.row(far, 0, sort, 65536 + 200);
            due("65736 in a row of sort " + sort, far.judge(0, 0), sort == 1 ? -1 : 0);
        }
        Edge.of(39, "BAD: SHEET; -11; -12.");
        for (int bad : Edge.beside(0, 3)) {
            due("SHEET " + bad, x.cell(bad, 0, 0), -2);
            due("BAD is told first", x.cell(bad, -1, 0), -2);
        }
        due("missing", x.cell(1, 0, 0), -11);
        for (int size : new int[] {0, 1, 39, 40}) {
            x.sheet(0, 2, size);
            for (int bad : Edge.beside(0, size - 1)) {
                due("place " + bad + " of " + size, x.cell(0, bad, 0), -12);
                due("-11 is told first", x.cell(1, bad, 0), -11);
            }
            if (size > 0) due("the last of " + size, x.cell(0, size - 1, 0), 1);
        }
    }

    // ---- promise 40: copy

    private static void copyIsAsTheyWere() {
        Edge.of(40, "come to another one's (or its own) place j (as they were): n");
        JustFivePounds x = exact();
        for (int sort = 0; sort < 3; sort++) {
            Due.row(x, 0, sort, 1, 2, 3, 4, 5);
            due("upwards", x.copy(0, 0, 0, 1, 4), 4);
            holds(x, 0, sort, 1, 1, 2, 3, 4);
            Due.row(x, 0, sort, 1, 2, 3, 4, 5);
            due("downwards", x.copy(0, 1, 0, 0, 4), 4);
            holds(x, 0, sort, 2, 3, 4, 5, 5);
            due("to itself", x.copy(0, 0, 0, 0, 5), 5);
            due("none", x.copy(0, 0, 0, 0, 0), 0);
            due("none, at the end", x.copy(0, 5, 0, 5, 0), 0);
            holds(x, 0, sort, 2, 3, 4, 5, 5);
            Due.row(x, 1, sort, 8, 9);
            due("to another", x.copy(0, 3, 1, 0, 2), 2);
            holds(x, 1, sort, 5, 5);
            holds(x, 0, sort, 2, 3, 4, 5, 5);
        }
        x.sheet(0, 2, 0);
        due("of an empty row", x.copy(0, 0, 0, 0, 0), 0);
        due("of an empty row", x.copy(0, 0, 0, 0, 1), -12);
    }

    private static void copyRefuses() {
        Edge.of(40, "BAD: SHEETS; -11; -13: unlike sorts; -12 (n below 0, too).");
        JustFivePounds x = exact();
        Due.row(x, 0, 2, 1, 2, 3);
        Due.row(x, 1, 2, 4, 5);
        int far = Integer.MAX_VALUE, low = Integer.MIN_VALUE;
        int[][] outside = {{-1, 0, 1}, {0, -1, 1}, {0, 0, -1}, {3, 0, 1}, {0, 2, 1}, {2, 0, 2}, {0, 1, 2}, {0, 0, 3}, {4, 0, 0}, {0, 3, 0},
            {-1, 0, 0}, {0, -1, 0}, {far, 0, 1}, {0, far, 1}, {0, 0, far}, {1, 1, far}, {far, far, far}, {low, 0, 1}, {0, low, 1},
            {0, 0, low}, {low, low, low}, {3, 2, low}, {far, 0, low}, {1, 0, -1}, {1, 1, -1}, {-2, 0, far}};
        for (int[] o : outside) due("copy " + o[0] + ", " + o[1] + ", " + o[2], x.copy(0, o[0], 1, o[1], o[2]), -12);
        holds(x, 0, 2, 1, 2, 3);
        holds(x, 1, 2, 4, 5);
        for (int a = 0; a < 3; a++) {
            for (int b = 0; b < 3; b++) {
                x.sheet(0, a, 2);
                x.sheet(1, b, 2);
                due("sorts " + a + ", " + b, x.copy(0, 0, 1, 0, 1), a == b ? 1 : -13);
                due("sorts " + a + ", " + b + ", none", x.copy(0, 0, 1, 0, 0), a == b ? 0 : -13);
                due("-13 is told first", x.copy(0, 0, 1, 0, -1), a == b ? -12 : -13);
                due("-13 is told first", x.copy(0, 2, 1, 0, 1), a == b ? -12 : -13);
            }
        }
        x.sheet(3, -1, 0);
        for (int n = -1; n <= 1; n++) {
            due("from a missing one", x.copy(2, 0, 0, 0, n), -11);
            due("to a missing one", x.copy(0, 0, 2, 0, n), -11);
            due("both are missing", x.copy(2, 0, 3, 0, n), -11);
            for (int bad : Edge.beside(0, 3)) {
                due("from SHEET " + bad, x.copy(bad, 0, 0, 0, n), -2);
                due("to SHEET " + bad, x.copy(0, 0, bad, 0, n), -2);
                due("BAD is told first", x.copy(2, 0, bad, 0, n), -2);
                due("BAD is told first", x.copy(bad, 0, 2, 0, n), -2);
            }
        }
    }

    // ---- promises 41 and 42: handsBy, taken

    private static void handsByThrees() {
        Edge.of(41, "from a place on, three by three (as of hand()), n of them (0 .. 5): how many came (others are left out)");
        JustFivePounds x = exact();
        Due.row(x, 0, 2, 59, 99, 500, 60, 0, 0, 0, 100, 0, 0, 0, 501, -1, 0, 0);
        due("none of none", x.handsBy(0, 2, 0, 0), 0);
        for (int at : Edge.beside(0, 17)) due("none, wherever: " + at, x.handsBy(0, 2, at, 0), 0);
        due("one of five", x.handsBy(0, 2, 0, 5), 1);
        due("none of the others", x.handsBy(0, 2, 3, 4), 0);
        due("HANDS", x.count(0), 2);
        int[] want = {5, 9, 99, 500};
        for (int what = 0; what < 4; what++) due("told(1, " + what + ")", x.told(1, what), want[what]);
        x.sheet(1, 0, 40);
        due("three have room, of five", x.handsBy(1, 0, 25, 5), 3);
        due("none has room", x.handsBy(1, 0, 0, 5), 0);
        due("HANDS", x.count(0), 5);
        JustFivePounds none = new JustFivePounds();
        Due.row(none, 0, 2, 0, 0, 0, 0, 0, 0);
        due("two, the first being number 0", none.handsBy(0, 2, 0, 2), 2);
        Edge.of(41, "-12: what stood ahead came.");
        JustFivePounds y = exact();
        Due.row(y, 0, 2, 11, 1, 1, 22, 2, 2, 33, 3);
        due("33 lacks one", y.handsBy(0, 2, 0, 3), -12);
        due("HANDS", y.count(0), 3);
        due("11", y.told(1, 1), 1);
        due("22", y.told(2, 1), 2);
        due("the last place of all", y.handsBy(0, 2, 5, 1), 1);
        due("behind the end", y.handsBy(0, 2, 6, 1), -12);
        for (int bad : Edge.beside(0, 7)) due("from place " + bad, y.handsBy(0, 2, bad, 1), -12);
        due("none came", y.count(0), 4);
        y.hand(0, 0, 0);
        due("outside, though there is no room", y.handsBy(0, 2, 0, 3), -12);
        y.sheet(1, 2, 0);
        due("of an empty row", y.handsBy(1, 2, 0, 1), -12);
        due("none of an empty row", y.handsBy(1, 2, 0, 0), 0);
    }

    private static void handsByRefuses() {
        Edge.of(41, "BAD: SHEET, sort, n; -11; -13;");
        JustFivePounds x = exact();
        for (int sort = 0; sort < 3; sort++) {
            Due.row(x, 0, sort, 11, 1, 1);
            for (int bad : Edge.beside(0, 5)) {
                due("n " + bad, x.handsBy(0, sort, 0, bad), -2);
                due("BAD is told first", x.handsBy(1, sort, 0, bad), -2);
                due("BAD is told first", x.handsBy(0, (sort + 1) % 3, 0, bad), -2);
            }
            for (int bad : Edge.beside(0, 2)) {
                due("sort " + bad, x.handsBy(0, bad, 0, 1), -2);
                due("BAD is told first", x.handsBy(1, bad, 0, 1), -2);
                due("BAD is told first", x.handsBy(0, bad, -1, 1), -2);
            }
            for (int bad : Edge.beside(0, 3)) due("SHEET " + bad, x.handsBy(bad, sort, 0, 1), -2);
            due("missing", x.handsBy(1, sort, 0, 1), -11);
            due("-11 is told first", x.handsBy(1, sort, -1, 1), -11);
            for (int other = 0; other < 3; other++) {
                if (other == sort) continue;
                due("another sort", x.handsBy(0, other, 0, 1), -13);
                due("another sort, of none", x.handsBy(0, other, 0, 0), -13);
                due("-13 is told first", x.handsBy(0, other, 1, 1), -13);
            }
        }
        due("none came", x.count(0), 1);
    }

    private static void takenIsAsItsKind() {
        Edge.of(42, "0 .. 4 HANDS, 5 MARK, 6 PRICE, taken for 0 .. 5 a HAND of that KIND (also of one that is one): its number; 6 a sum: how much");
        String[] kindsOf = {"0", "01", "02", "013", "024", "05"};
        for (int kind = 0; kind < 6; kind++) {
            JustFivePounds x = new JustFivePounds();
            for (int h = 0; h < 5; h++) {
                x.hand(10 * kind, 0, 0);
                for (int as = 0; as < 6; as++) {
                    due("KIND " + kind + " for " + as, x.taken(h, as), kindsOf[kind].indexOf('0' + as) >= 0 ? h : -13);
                }
                due("KIND " + kind + " for a sum", x.taken(h, 6), -13);
            }
        }
        Edge.of(42, "BAD: kind; -12: i; -11: nothing lies there; -13.");
        JustFivePounds x = new JustFivePounds();
        for (int hands = 0; hands <= 5; hands++) {
            for (int kind = 0; kind <= 6; kind++) {
                for (int i = hands; i < 5; i++) due("place " + i + " of " + hands + " HANDS", x.taken(i, kind), -11);
                for (int bad : Edge.beside(0, 6)) due("place " + bad, x.taken(bad, kind), -12);
                due("MARK for " + kind, x.taken(5, kind), kind == 6 ? 500 : -13);
                due("PRICE for " + kind, x.taken(6, kind), kind == 6 ? 40 : -13);
            }
            for (int bad : Edge.beside(0, 6)) {
                for (int i = -1; i <= 7; i++) due("kind " + bad + " of place " + i, x.taken(i, bad), -2);
            }
            x.hand(0, 0, 0);
        }
    }

    // ---- what is said of all refusals, and of all that is asked

    /** All that can be seen of an object by asking. */
    private static List<Long> seen(JustFivePounds x) {
        List<Long> all = new ArrayList<>();
        for (int what = 0; what < 8; what++) all.add((long) x.count(what));
        for (int what = 0; what < 3; what++) all.add((long) x.book(what));
        for (int what = 0; what < 4; what++) for (int h = 0; h < 5; h++) all.add((long) x.told(h, what));
        for (int part = 0; part < 3; part++) all.add((long) x.asks(part, 23, 71, 5));
        for (int s = 0; s < 4; s++) {
            for (int h = 0; h < 5; h++) {
                all.add((long) x.judge(s, h));
                all.add(x.parts(s, h));
            }
            for (int sort = 0; sort < 3; sort++) all.add((long) x.handsBy(s, sort, 0, 0));
        }
        for (int i = 0; i < 7; i++) for (int kind = 0; kind < 7; kind++) all.add(x.taken(i, kind));
        for (int h = 0; h < 5; h++) for (int what = 0; what < 4; what++) all.add((long) x.stops(h, 2, what));
        return all;
    }

    /** Where it has got something of each: HANDS, a TEXT, a TAPE, a BOOK, AN IMAGE, SHEETS. */
    private static JustFivePounds busy() {
        JustFivePounds x = Due.by(TENS);
        x.hand(47, 30, 120);
        x.hand(5, 20, 0);
        x.image();
        x.set(0, 510);
        x.set(1, 3);
        x.set(2, 41);
        x.set(3, 4000);
        x.hand(39, 10, 10);
        x.serve(77, 0);
        x.serve(78, 1);
        x.film(0, 1);
        x.film(1, 0);
        Due.row(x, 2, 0, 9, 9, 9, 9);
        Due.feed(x, "runs 2;late 3;costs 4;");
        return x;
    }

    private static Map<String, Call> asked() {
        Map<String, Call> all = new LinkedHashMap<>();
        all.put("count", x -> x.count(1));
        all.put("asks", x -> x.asks(2, 34, 991, 9));
        all.put("told", x -> x.told(0, 2));
        for (int h = 0; h < 3; h++) {
            int one = h;
            all.put("stops " + h, x -> x.stops(one, 3, 0));
            all.put("chance " + h, x -> x.chance(one, 0, 0));
            all.put("mean " + h, x -> x.mean(one, 0));
            all.put("time " + h, x -> x.time(one, 0));
            all.put("at " + h, x -> x.at(one, 503, 0));
            all.put("ahead by COST " + h, x -> x.ahead(one, 0));
            all.put("ahead by MARK " + h, x -> x.ahead(one, 1));
            all.put("change by COST " + h, x -> x.change(one, 0));
            all.put("change by TENTHS " + h, x -> x.change(one, 1));
            all.put("next " + h, x -> x.next(one));
            all.put("on " + h, x -> x.on(one, 450, 0));
            all.put("full " + h, x -> x.full(one, 1, 0));
            all.put("spread " + h, x -> x.spread(one));
            all.put("alike " + h, x -> x.alike(one, 3, 0));
            all.put("judge " + h, x -> x.judge(0, one));
            all.put("parts " + h, x -> x.parts(0, one));
            for (int sort = 0; sort < 3; sort++) {
                int ten = 10 * sort;
                all.put("fits " + h + " by " + sort, x -> x.fits(0, one, ten));
            }
            all.put("rule " + h, x -> x.rule(0, one, 0));
            all.put("laws " + h, x -> x.laws(0, one));
            all.put("drawn " + h, x -> x.drawn(12345, one, 0));
            all.put("odds " + h, x -> x.odds(12345, 99, one, 0));
        }
        for (int goal = 0; goal < 3; goal++) {
            int by = goal;
            all.put("who " + goal, x -> x.who(by));
        }
        all.put("both", x -> x.both(17, 3));
        all.put("whose", x -> x.whose(1, 0));
        all.put("book", x -> x.book(2));
        all.put("taken", x -> x.taken(0, 4));
        return all;
    }

    private static Map<String, Call> refused() {
        Map<String, Call> all = new LinkedHashMap<>();
        all.put("set, what", x -> x.set(4, 1));
        all.put("set, v", x -> x.set(0, 2001));
        all.put("feed, n", x -> x.feed(6, 1, 1, 1, 1, 1));
        all.put("feed, a byte", x -> x.feed(1, 'x', 1, 1, 1, 256));
        all.put("force", x -> x.force(2));
        all.put("asks", x -> x.asks(3, 10, 0, 0));
        all.put("hand", x -> x.hand(0, 0, 501));
        all.put("train, HAND", x -> x.train(3, 0, 1));
        all.put("train, v", x -> x.train(0, 0, 100));
        all.put("train, what", x -> x.train(0, 2, 1));
        all.put("film, SHEET", x -> x.film(4, 0));
        all.put("film, HAND", x -> x.film(0, 3));
        all.put("serve, HAND", x -> x.serve(0, 3));
        all.put("serve, SEED", x -> x.serve(100000, 0));
        all.put("sheet, SHEET", x -> x.sheet(4, 2, 1));
        all.put("sheet, sort", x -> x.sheet(0, 3, 1));
        all.put("sheet, n", x -> x.sheet(0, 2, 41));
        all.put("sheet, n below 0", x -> x.sheet(0, 2, -1));
        all.put("cell, SHEET", x -> x.cell(4, 0, 7));
        all.put("cell, missing", x -> x.cell(3, 0, 7));
        all.put("cell, outside", x -> x.cell(0, 5, 7));
        all.put("copy, SHEET", x -> x.copy(0, 0, 4, 0, 1));
        all.put("copy, missing", x -> x.copy(0, 0, 3, 0, 1));
        all.put("copy, unlike", x -> x.copy(2, 0, 0, 0, 1));
        all.put("copy, outside", x -> x.copy(0, 1, 1, 0, 5));
        all.put("copy, partly outside", x -> x.copy(0, 0, 1, 1, 4));
        all.put("handsBy, n", x -> x.handsBy(2, 0, 0, 6));
        all.put("handsBy, missing", x -> x.handsBy(3, 0, 0, 1));
        all.put("handsBy, unlike", x -> x.handsBy(2, 1, 0, 1));
        all.put("handsBy, outside", x -> x.handsBy(2, 0, 2, 1));
        all.put("taken", x -> x.taken(0, 7));
        return all;
    }

    private static void nothingIsChangedBy(Map<String, Call> calls, boolean refusals) {
        for (Map.Entry<String, Call> one : calls.entrySet()) {
            JustFivePounds x = busy();
            List<Long> ahead = seen(x);
            long first = one.getValue().applyAsLong(x);
            if (refusals) due(one.getKey() + " is refused", first < -1 ? 1 : 0, 1);
            List<Long> behind = seen(x);
            for (int i = 0; i < ahead.size(); i++) due(one.getKey() + ", seen " + i, behind.get(i), ahead.get(i));
            due(one.getKey() + " again", one.getValue().applyAsLong(x), first);
            due("THE TAPE is as it was, behind " + one.getKey(), x.text(), 2);
            x.force(2);
            for (int part = 0; part < 3; part++) due("THE TAPE is as it was", x.asks(part, 10, 0, 0), 2 + part);
            due("THE IMAGE is as it was, behind " + one.getKey(), x.back(), 2);
            int[] image = {2, 500, 1, 40, 5000, 3, 1, 0};
            for (int what = 0; what < 8; what++) due("THE IMAGE's " + what, x.count(what), image[what]);
            due("THE IMAGE's AHEAD", x.told(0, 2), 30);
            due("THE IMAGE's CHANGES", x.told(0, 3), 120);
        }
    }

    private static void whatChangesNothing() {
        Edge.of(42, "SHEETS", "They change nothing, but where it is told.");
        nothingIsChangedBy(refused(), true);
        Edge.of(42, "SHEETS", "What is asked changes nothing, but where it is told.");
        nothingIsChangedBy(asked(), false);
    }

    private static void theNumbersOfRefusals() {
        Edge.of(42, "SHEETS", "REFUSALS, of several the first one told: NONE there is no such thing; BAD a number is not as told; "
                + "STATE as told; FULL. The host's: -11 nothing there, -12 a place outside, -13 of another sort or KIND, -14 a size below 0.");
        due("NONE", new JustFivePounds().who(0), JustFivePounds.NONE);
        due("BAD", new JustFivePounds().who(3), JustFivePounds.BAD);
        due("STATE", new JustFivePounds().back(), JustFivePounds.STATE);
        JustFivePounds x = exact();
        for (int h = 1; h < 5; h++) x.hand(0, 0, 0);
        due("FULL", x.hand(0, 0, 0), JustFivePounds.FULL);
        due("NO", x.mean(5, 0), JustFivePounds.NO);
        due("nothing there", x.cell(0, 0, 0), -11);
        due("a size below 0", x.sheet(0, 0, -1), -14);
        x.sheet(0, 0, 1);
        due("a place outside", x.cell(0, 1, 0), -12);
        due("another sort", x.handsBy(0, 1, 0, 1), -13);
        due("another KIND", x.taken(0, 1), -13);
    }

    public static void main(String[] args) {
        sheetsAreMissingAtFirst();
        sheetRefuses();
        cellIsCutToItsSort();
        copyIsAsTheyWere();
        copyRefuses();
        handsByThrees();
        handsByRefuses();
        takenIsAsItsKind();
        whatChangesNothing();
        theNumbersOfRefusals();
        Edge.allTold(38, 42, "SHEETS");
        Due.end("EdgeHostTest");
    }
}
