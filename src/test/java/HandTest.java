/** Promises 8 to 10: hands. */
public final class HandTest {
    private static final int[] FAR = {Integer.MIN_VALUE, Integer.MAX_VALUE};

    private static void due(String call, long got, long want) {
        Due.due(call, got, want);
    }

    /** Promise 8. */
    private static void handsAreNumbered() {
        JustFivePounds x = new JustFivePounds();
        due("first", x.hand(0, 0, 0), 0);
        due("last KIND, most of all", x.hand(59, 99, 500), 1);
        due("hand", x.hand(10, 1, 2), 2);
        due("hand", x.hand(27, 3, 4), 3);
        due("count", x.count(0), 4);
        due("hand", x.hand(48, 5, 6), 4);
        due("count", x.count(0), 5);
        due("a sixth", x.hand(30, 0, 0), -4);
        due("BAD ahead of FULL", x.hand(60, 0, 0), -2);
        due("BAD ahead of FULL", x.hand(0, 100, 0), -2);
        due("count", x.count(0), 5);
        int[][] told = {{0, 0, 0, 0}, {5, 9, 99, 500}, {1, 0, 1, 2}, {2, 7, 3, 4}, {4, 8, 5, 6}};
        for (int h = 0; h < 5; h++) for (int w = 0; w < 4; w++) due("told(" + h + ", " + w + ")", x.told(h, w), told[h][w]);
    }

    /** Promise 8: the refusals. */
    private static void handsAreRefused() {
        JustFivePounds x = new JustFivePounds();
        for (int bad : new int[] {-1, 60, 100, FAR[0], FAR[1]}) due("kindMore " + bad, x.hand(bad, 0, 0), -2);
        for (int bad : new int[] {-1, 100, FAR[0], FAR[1]}) due("ahead " + bad, x.hand(0, bad, 0), -2);
        for (int bad : new int[] {-1, 501, FAR[0], FAR[1]}) due("change " + bad, x.hand(0, 0, bad), -2);
        due("count", x.count(0), 0);
    }

    /** Promise 9. */
    private static void handsAreTrained() {
        JustFivePounds x = new JustFivePounds();
        due("none such", x.train(0, 0, 0), -5);
        x.hand(23, 7, 70);
        x.hand(34, 8, 80);
        due("ahead", x.train(0, 0, 99), 7);
        due("ahead", x.train(0, 0, 0), 99);
        due("ahead", x.train(0, 0, 5), 0);
        due("change", x.train(0, 1, 500), 70);
        due("change", x.train(0, 1, 0), 500);
        due("change", x.train(0, 1, 100), 0);
        int[][] told = {{2, 3, 5, 100}, {3, 4, 8, 80}};
        for (int bad : new int[] {-1, 100, FAR[0], FAR[1]}) due("ahead " + bad, x.train(0, 0, bad), -7);
        for (int bad : new int[] {-1, 501, FAR[0], FAR[1]}) due("change " + bad, x.train(0, 1, bad), -7);
        for (int bad : new int[] {-1, 2, FAR[0], FAR[1]}) due("what " + bad, x.train(0, bad, 0), -7);
        for (int bad : new int[] {-1, 2, 5, FAR[0], FAR[1]}) {
            due("hand " + bad, x.train(bad, 0, 0), -5);
            due("the first one told", x.train(bad, 9, -1), -5);
        }
        for (int h = 0; h < 2; h++) for (int w = 0; w < 4; w++) due("told(" + h + ", " + w + ")", x.told(h, w), told[h][w]);
    }

    /** Promise 10. */
    private static void handsAreTold() {
        JustFivePounds x = new JustFivePounds();
        for (int kind = 0; kind < 5; kind++) x.hand(10 * kind + 9 - kind, 20 + kind, 300 + kind);
        for (int kind = 0; kind < 5; kind++) {
            due("KIND", x.told(kind, 0), kind);
            due("MORE", x.told(kind, 1), 9 - kind);
            due("AHEAD", x.told(kind, 2), 20 + kind);
            due("CHANGES", x.told(kind, 3), 300 + kind);
            for (int bad : new int[] {-1, 4, FAR[0], FAR[1]}) due("what " + bad, x.told(kind, bad), -7);
        }
        for (int bad : new int[] {-1, 5, FAR[0], FAR[1]}) {
            due("hand " + bad, x.told(bad, 0), -5);
            due("the first one told", x.told(bad, 4), -5);
        }
    }

    public static void main(String[] args) {
        handsAreNumbered();
        handsAreRefused();
        handsAreTrained();
        handsAreTold();
        Due.end("HandTest");
    }
}
