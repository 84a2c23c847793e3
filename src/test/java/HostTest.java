/** Promises 38 to 42: sheets, hands by a sheet, what lies at a place. */
public final class HostTest {
    private static final int[] FAR = {Integer.MIN_VALUE, Integer.MAX_VALUE};

    private static void due(String call, long got, long want) {
        Due.due(call, got, want);
    }

    /** One that never is late and stops at MARK alone, so that judge() tells what a row holds. */
    private static JustFivePounds exact() {
        JustFivePounds x = Due.by("runs 1; late after=0; costs off;");
        x.set(1, 0);
        x.hand(0, 0, 0);
        return x;
    }

    /** What stands in a row: a number is judged likely towards itself as MARK alone. */
    private static void holds(JustFivePounds x, int s, int... want) {
        int was = x.count(1);
        for (int i = 0; i < want.length; i++) {
            x.sheet(3, sortOf(x, s), 1);
            due("place " + i + " there", x.copy(s, i, 3, 0, 1), 1);
            x.train(0, 0, want[i] == 0 ? 1 : 0);
            x.set(0, Math.max(1, want[i]));
            due("place " + i + " holds " + want[i], x.judge(3, 0), -1);
        }
        due("none behind", x.cell(s, want.length, 0), -12);
        x.train(0, 0, 0);
        x.set(0, was);
    }

    private static int sortOf(JustFivePounds x, int s) {
        for (int sort = 0; sort < 3; sort++) if (x.handsBy(s, sort, 0, 0) == 0) return sort;
        return -1;
    }

    /** Promise 38. */
    private static void sheets() {
        JustFivePounds x = exact();
        for (int s = 0; s < 4; s++) {
            due("missing at first", x.cell(s, 0, 0), -11);
            for (int sort = 0; sort < 3; sort++) {
                due("sheet", x.sheet(s, sort, 40), 1);
                due("its last place", x.cell(s, 39, 7), 1);
                due("none behind", x.cell(s, 40, 0), -12);
                due("of that sort", sortOf(x, s), sort);
                due("sheet", x.sheet(s, sort, 0), 1);
                due("no place", x.cell(s, 0, 0), -12);
                due("sheet", x.sheet(s, sort, 1), 1);
                for (int bad : new int[] {41, FAR[1]}) due("size " + bad, x.sheet(s, sort, bad), -2);
                for (int bad : new int[] {-1, FAR[0]}) due("size " + bad, x.sheet(s, sort, bad), -14);
                due("what stands, stays", x.cell(s, 0, 7), 1);
            }
            for (int bad : new int[] {-2, 3, FAR[0], FAR[1]}) {
                due("sort " + bad, x.sheet(s, bad, 0), -2);
                due("BAD ahead of -14", x.sheet(s, bad, -1), -2);
            }
            due("what stands, stays", x.cell(s, 0, 7), 1);
            for (int any : new int[] {0, 41, -1, FAR[0], FAR[1]}) {
                due("missing", x.sheet(s, -1, any), 1);
                due("nothing there", x.cell(s, 0, 0), -11);
                due("sheet again", x.sheet(s, 2, 3), 1);
            }
        }
        for (int bad : new int[] {-1, 4, FAR[0], FAR[1]}) {
            due("sheet " + bad, x.sheet(bad, 0, 0), -2);
            due("sheet " + bad, x.sheet(bad, -1, 0), -2);
            due("BAD ahead of -14", x.sheet(bad, 0, -1), -2);
        }
        Due.row(x, 0, 2, 5, 6, 7);
        x.sheet(0, 2, 3);
        holds(x, 0, 0, 0, 0);
    }

    /** Promise 39. */
    private static void cells() {
        JustFivePounds x = exact();
        Due.row(x, 0, 0, 1, 127, 256, 257, 65536 + 100, -156, FAR[0], FAR[0] + 5);
        holds(x, 0, 1, 127, 0, 1, 100, 100, 0, 5);
        Due.row(x, 0, 1, 1, 127, 256, 257, 65536 + 100, 65536 * 7, -65536 + 1999, FAR[0] + 5);
        holds(x, 0, 1, 127, 256, 257, 100, 0, 1999, 5);
        Due.row(x, 0, 2, 1, 127, 256, 257, 1999);
        holds(x, 0, 1, 127, 256, 257, 1999);
        x.cell(0, 1, 9);
        holds(x, 0, 1, 9, 256, 257, 1999);
        Due.row(x, 0, 2, 65536 + 500, 256 + 500, -500);
        for (int mark : new int[] {500, 756, 244}) {
            x.set(0, mark);
            due("an int is whole", x.judge(0, 0), 0);
        }
        x.set(0, 200);
        Due.row(x, 0, 0, 200);
        due("a byte above 127 is below 0", x.judge(0, 0), 0);
        x.sheet(0, 1, 5);
        for (int bad : new int[] {-1, 5, 40, FAR[0], FAR[1]}) due("place " + bad, x.cell(0, bad, 0), -12);
        for (int bad : new int[] {-1, 4, FAR[0], FAR[1]}) {
            due("sheet " + bad, x.cell(bad, 0, 0), -2);
            due("the first one told", x.cell(bad, -1, 0), -2);
        }
        due("missing", x.cell(1, 0, 0), -11);
        due("the first one told", x.cell(1, -1, 0), -11);
    }

    /** Promise 40. */
    private static void copies() {
        JustFivePounds x = exact();
        Due.row(x, 0, 2, 1, 2, 3, 4, 5, 6);
        Due.row(x, 1, 2, 11, 12, 13);
        due("to another", x.copy(0, 1, 1, 0, 2), 2);
        holds(x, 1, 2, 3, 13);
        holds(x, 0, 1, 2, 3, 4, 5, 6);
        due("all of it", x.copy(1, 0, 0, 3, 3), 3);
        holds(x, 0, 1, 2, 3, 2, 3, 13);
        Due.row(x, 0, 2, 1, 2, 3, 4, 5, 6);
        due("upwards, as they were", x.copy(0, 0, 0, 2, 4), 4);
        holds(x, 0, 1, 2, 1, 2, 3, 4);
        Due.row(x, 0, 2, 1, 2, 3, 4, 5, 6);
        due("downwards, as they were", x.copy(0, 2, 0, 1, 4), 4);
        holds(x, 0, 1, 3, 4, 5, 6, 6);
        due("in place", x.copy(0, 1, 0, 1, 5), 5);
        due("none", x.copy(0, 0, 0, 0, 0), 0);
        due("none at the end", x.copy(0, 6, 1, 3, 0), 0);
        due("none behind the end", x.copy(0, 7, 1, 0, 0), -12);
        due("none to behind the end", x.copy(0, 0, 1, 4, 0), -12);
        int[][] outside = {{-1, 0, 1}, {0, -1, 1}, {0, 0, -1}, {0, 0, 4}, {4, 0, 3}, {0, 1, 3}, {6, 0, 1}, {0, 3, 1},
            {FAR[1], 0, 1}, {0, FAR[1], 1}, {0, 0, FAR[1]}, {FAR[1], FAR[1], FAR[1]}, {FAR[0], 0, 1}, {0, FAR[0], 1},
            {0, 0, FAR[0]}, {1, 1, FAR[1]}, {-1, -1, 0}};
        for (int[] o : outside) due("copy " + o[0] + " " + o[1] + " " + o[2], x.copy(0, o[0], 1, o[1], o[2]), -12);
        holds(x, 0, 1, 3, 4, 5, 6, 6);
        holds(x, 1, 2, 3, 13);
        Due.row(x, 1, 1, 1, 2, 3);
        due("unlike", x.copy(0, 0, 1, 0, 1), -13);
        due("unlike", x.copy(1, 0, 0, 0, 1), -13);
        due("unlike ahead of outside", x.copy(1, -1, 0, 0, 1), -13);
        due("missing", x.copy(2, 0, 0, 0, 1), -11);
        due("missing", x.copy(0, 0, 2, 0, 1), -11);
        due("missing", x.copy(2, 0, 2, 0, 0), -11);
        due("missing ahead of outside", x.copy(2, -1, 0, 0, 1), -11);
        for (int bad : new int[] {-1, 4, FAR[0], FAR[1]}) {
            due("sheet " + bad, x.copy(bad, 0, 0, 0, 1), -2);
            due("sheet " + bad, x.copy(0, 0, bad, 0, 1), -2);
            due("BAD ahead of missing", x.copy(2, -1, bad, 0, 1), -2);
        }
        Due.row(x, 0, 0, 100, 50);
        Due.row(x, 2, 0, 7, 8);
        due("of bytes", x.copy(0, 0, 2, 0, 2), 2);
        holds(x, 2, 100, 50);
    }

    private static void hand(JustFivePounds x, int h, int kind, int more, int ahead, int change) {
        int[] want = {kind, more, ahead, change};
        for (int w = 0; w < 4; w++) due("told(" + h + ", " + w + ")", x.told(h, w), want[w]);
    }

    /** Promise 41. */
    private static void handsBySheets() {
        JustFivePounds x = new JustFivePounds();
        Due.row(x, 0, 2, 9, 47, 30, 500, 60, 0, 0, 12, 99, 1, 0, 100, 0, 5);
        due("two of three", x.handsBy(0, 2, 1, 3), 2);
        due("count", x.count(0), 2);
        hand(x, 0, 4, 7, 30, 500);
        hand(x, 1, 1, 2, 99, 1);
        due("none of one", x.handsBy(0, 2, 10, 1), 0);
        due("n 0", x.handsBy(0, 2, 0, 0), 0);
        due("13 is the last place", x.handsBy(0, 2, 11, 1), 0);
        due("14 is outside", x.handsBy(0, 2, 12, 1), -12);
        due("what stood ahead came", x.handsBy(0, 2, 7, 3), -12);
        due("count", x.count(0), 3);
        hand(x, 2, 1, 2, 99, 1);
        for (int bad : new int[] {-1, 12, 14, 40, FAR[0], FAR[1]}) due("from " + bad, x.handsBy(0, 2, bad, 1), -12);
        due("none came", x.count(0), 3);
        Due.row(x, 1, 1, 30, 20, 300, 31, 21, 301, 32, 22, 302, 33, 23, 303, 34, 24, 304);
        due("of shorts, and only two have room", x.handsBy(1, 1, 0, 5), 2);
        hand(x, 3, 3, 0, 20, 300);
        hand(x, 4, 3, 1, 21, 301);
        due("none has room", x.handsBy(1, 1, 0, 5), 0);
        due("outside, though none has room", x.handsBy(1, 1, 3, 5), -12);
        JustFivePounds y = new JustFivePounds();
        Due.row(y, 0, 0, 59, 99, 127, 0, 0, -1);
        due("of bytes", y.handsBy(0, 0, 0, 2), 1);
        hand(y, 0, 5, 9, 99, 127);
        for (int bad : new int[] {-1, 6, FAR[0], FAR[1]}) due("n " + bad, y.handsBy(0, 0, 0, bad), -2);
        for (int bad : new int[] {-1, 3, FAR[0], FAR[1]}) due("sort " + bad, y.handsBy(0, bad, 0, 1), -2);
        for (int bad : new int[] {-1, 4, FAR[0], FAR[1]}) due("sheet " + bad, y.handsBy(bad, 0, 0, 1), -2);
        due("missing", y.handsBy(1, 0, 0, 1), -11);
        due("BAD ahead of missing", y.handsBy(1, 0, 0, 6), -2);
        due("BAD ahead of missing", y.handsBy(1, 3, 0, 1), -2);
        for (int sort = 1; sort < 3; sort++) {
            due("unlike", y.handsBy(0, sort, 0, 1), -13);
            due("unlike ahead of outside", y.handsBy(0, sort, -1, 1), -13);
            due("unlike, though none should come", y.handsBy(0, sort, 0, 0), -13);
        }
        due("count", y.count(0), 1);
    }

    /** Promise 42. */
    private static void takens() {
        JustFivePounds x = new JustFivePounds();
        x.set(0, 777);
        x.set(2, 33);
        int[] are = {0b000001, 0b000011, 0b000101, 0b001011, 0b010101, 0b100001};
        for (int kind = 0; kind < 5; kind++) x.hand(10 * kind + 3, 0, 0);
        for (int h = 0; h < 5; h++) {
            for (int kind = 0; kind < 6; kind++) {
                due("taken(" + h + ", " + kind + ")", x.taken(h, kind), (are[h] >> kind & 1) == 1 ? h : -13);
            }
            due("no sum", x.taken(h, 6), -13);
        }
        due("MARK", x.taken(5, 6), 777);
        due("PRICE", x.taken(6, 6), 33);
        for (int kind = 0; kind < 6; kind++) for (int i = 5; i < 7; i++) due("no HAND", x.taken(i, kind), -13);
        for (int bad : new int[] {-1, 7, FAR[0], FAR[1]}) {
            due("place " + bad, x.taken(bad, 0), -12);
            due("place " + bad, x.taken(bad, 6), -12);
            due("kind " + bad, x.taken(0, bad), -2);
            due("BAD ahead of a place outside", x.taken(-1, bad), -2);
        }
        JustFivePounds y = new JustFivePounds();
        y.hand(50, 0, 0);
        for (int kind = 0; kind < 6; kind++) due("CARELESS", y.taken(0, kind), (are[5] >> kind & 1) == 1 ? 0 : -13);
        for (int i = 1; i < 5; i++) for (int kind = 0; kind < 7; kind++) due("nothing there", y.taken(i, kind), -11);
    }

    public static void main(String[] args) {
        sheets();
        cells();
        copies();
        handsBySheets();
        takens();
        Due.end("HostTest");
    }
}
