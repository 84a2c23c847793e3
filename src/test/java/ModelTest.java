import java.util.Random;

/** Long runs of calls by lot, each held against the plain model; every call of the face, right and wrong numbers. */
public final class ModelTest {
    private static final int RUNS = 3000, CALLS = 512;

    private static final String[] TEXTS = {
        "runs 1; late 1; costs off;",
        "runs 60; late 12; costs off*off*off*off;",
        "runs 0-5; late 0; costs 0-1;",
        "runs notch*notch+more; late after*2; costs off+over*price;",
        "runs 7; late (after=2)*9; costs (9<off)*off+5*over;",
        "runs 1+notch*(price<50 or not more=3); late 5-notch-after; costs (0<off)*(1+more);",
        "runs 10; late after=3 or after=1; costs off*(1+over);",
        "runs 3*notch; late - after+4; costs not (off=0 and over=0);",
    };
    private static final String[] WORDS = {
        "runs", "late", "costs", "not", "and", "or", "notch", "after", "off", "over", "more", "price", "pric", "a",
        "(", ")", ";", "+", "-", "*", "<", "=", "1", "0", "37", "9999", "12345", " ", "\n", "?", "A", "\t", "\u00e9"
    };

    private final Random lot;
    private final JustFivePounds x = new JustFivePounds();
    private final Model m = new Model();
    private final int run;

    private ModelTest(int run) {
        this.run = run;
        lot = new Random(7 * run + 1);
    }

    /** Mostly within, now and then a little or far outside. */
    private int near(int least, int most) {
        int sort = lot.nextInt(40);
        if (sort == 0) return least - 1;
        if (sort == 1) return most + 1;
        if (sort == 2) return lot.nextInt();
        if (sort == 3) return least;
        if (sort == 4) return most;
        if (sort == 5 && lot.nextInt(4) == 0) return lot.nextBoolean() ? Integer.MIN_VALUE : Integer.MAX_VALUE;
        return least + lot.nextInt(most - least + 1);
    }

    private void due(String call, long got, long want) {
        Due.due("run " + run + " " + call, got, want);
    }

    private String e(int depth) {
        if (depth == 0) return WORDS[lot.nextInt(3) == 0 ? 22 + lot.nextInt(3) : 6 + lot.nextInt(6)];
        switch (lot.nextInt(13)) {
            case 0: return "(" + e(depth - 1) + ")";
            case 1: return "not " + e(depth - 1);
            case 2: return "-" + e(depth - 1);
            case 3: return e(depth - 1) + " and " + e(depth - 1);
            case 4: return e(depth - 1) + " or " + e(depth - 1);
            case 5: case 6: return e(depth - 1) + "*" + e(depth - 1);
            case 7: return e(depth - 1) + "<" + e(depth - 1);
            case 8: return e(depth - 1) + "=" + e(depth - 1);
            case 9: return e(depth - 1) + "-" + e(depth - 1);
            case 10: return e(depth - 1) + " + " + e(depth - 1);
            default: return e(0);
        }
    }

    private String textByLot() {
        int sort = lot.nextInt(6);
        if (sort < 2) return TEXTS[lot.nextInt(TEXTS.length)];
        String text = "runs " + e(lot.nextInt(4)) + ";late " + e(lot.nextInt(4)) + ";costs " + e(lot.nextInt(5)) + ";";
        if (sort < 4) return text;
        StringBuilder s = new StringBuilder();
        if (sort == 4) {
            s.append(text);
            int n = 1 + lot.nextInt(3);
            for (int i = 0; i < n; i++) {
                String word = WORDS[lot.nextInt(WORDS.length)];
                int at = lot.nextInt(s.length() + 1);
                if (lot.nextBoolean()) s.insert(at, word);
                else if (at < s.length()) s.deleteCharAt(at);
            }
            return s.toString();
        }
        int n = lot.nextInt(20);
        for (int i = 0; i < n; i++) s.append(WORDS[lot.nextInt(WORDS.length)]);
        return s.toString();
    }

    private void feedText(String text) {
        for (int i = 0; i < text.length(); i += 5) {
            int n = Math.min(5, text.length() - i);
            int[] b = new int[5];
            for (int k = 0; k < n; k++) b[k] = text.charAt(i + k);
            due("feed " + text, x.feed(n, b[0], b[1], b[2], b[3], b[4]), m.feed(n, b[0], b[1], b[2], b[3], b[4]));
        }
    }

    private void law() {
        switch (lot.nextInt(5)) {
            case 0:
                int n = near(1, 5);
                int[] b = new int[5];
                for (int k = 0; k < 5; k++) b[k] = lot.nextInt(60) == 0 ? near(0, 255) : lot.nextInt(128);
                due("feed", x.feed(n, b[0], b[1], b[2], b[3], b[4]), m.feed(n, b[0], b[1], b[2], b[3], b[4]));
                break;
            case 1:
                due("text", x.text(), m.text());
                break;
            case 2:
                due("text", x.text(), m.text());
                String text = textByLot();
                feedText(text);
                due("text " + text, x.text(), m.text());
                break;
            case 3:
                int t = near(0, Math.max(1, m.texts.size() - 1));
                due("force", x.force(t), m.force(t));
                break;
            default:
                int p = near(0, 2);
                int na = 10 * near(1, 3) + near(0, 4);
                int oo = 10 * near(0, 999) + near(0, 1);
                int more = near(0, 9);
                due("asks " + p + " " + na + " " + oo + " " + more, x.asks(p, na, oo, more), m.asks(p, na, oo, more));
        }
    }

    private int handByLot() {
        return near(0, Math.max(0, m.hands.size() - 1));
    }

    private void hands() {
        int h = handByLot();
        switch (lot.nextInt(5)) {
            case 0:
            case 1:
                int km = near(0, 59);
                int a = lot.nextBoolean() ? near(0, 30) : near(0, 99);
                int c = near(0, 500);
                due("hand", x.hand(km, a, c), m.hand(km, a, c));
                break;
            case 2:
                int what = near(0, 1);
                int v = what == 0 ? near(0, 99) : near(0, 500);
                due("train", x.train(h, what, v), m.train(h, what, v));
                break;
            default:
                int w = near(0, 3);
                due("told", x.told(h, w), m.told(h, w));
        }
    }

    private void pump() {
        int w = near(0, 3);
        switch (lot.nextInt(3)) {
            case 0:
                int most = w == 0 ? lot.nextBoolean() ? 100 : 2000 : w == 1 ? 9 : w == 2 ? 99 : lot.nextBoolean() ? 600 : 5000;
                int v = near(w == 1 ? 0 : 1, most);
                due("set " + w + " " + v, x.set(w, v), m.set(w, v));
                break;
            case 1:
                int c = near(0, 7);
                due("count", x.count(c), m.count(c));
                break;
            default:
                int end = near(0, 5000), by = near(1, 100);
                due("both", x.both(end, by), m.both(end, by));
        }
    }

    private int endByLot(int h) {
        if (!m.noHand(h) && lot.nextInt(3) != 0) return m.stops(h, lot.nextInt(5), 0);
        return near(0, 5000);
    }

    private void stops() {
        int h = handByLot(), part = near(0, 1), end = endByLot(h);
        switch (lot.nextInt(9)) {
            case 0:
                int a = near(0, 4), w = near(0, 3);
                due("stops", x.stops(h, a, w), m.stops(h, a, w));
                break;
            case 1:
                int s = near(0, 2);
                due("chance", x.chance(h, s, part), m.chance(h, s, part));
                break;
            case 2:
                due("mean", x.mean(h, part), m.mean(h, part));
                break;
            case 3:
                due("time", x.time(h, part), m.time(h, part));
                break;
            case 4:
                due("at", x.at(h, end, part), m.at(h, end, part));
                break;
            case 5:
                int sort = near(0, 1);
                due("full", x.full(h, sort, part), m.full(h, sort, part));
                break;
            case 6:
                due("spread", x.spread(h), m.spread(h));
                break;
            case 7:
                int n = near(1, 4);
                due("alike", x.alike(h, n, part), m.alike(h, n, part));
                break;
            default:
                due("on " + h + " " + end, x.on(h, end, part), m.on(h, end, part));
        }
    }

    private void bests() {
        int h = handByLot(), goal = near(0, 1), who = near(0, 2);
        switch (lot.nextInt(8)) {
            case 0:
                due("ahead " + goal, x.ahead(h, goal), m.ahead(h, goal));
                break;
            case 1:
                due("change " + goal, x.change(h, goal), m.change(h, goal));
                break;
            case 2:
                due("next", x.next(h), m.next(h));
                break;
            default:
                due("who " + who, x.who(who), m.who(who));
        }
    }

    private void slips() {
        int s = near(0, 3), h = handByLot(), what = near(0, 1);
        switch (lot.nextInt(8)) {
            case 0:
                due("judge", x.judge(s, h), m.judge(s, h));
                break;
            case 1:
                due("parts", x.parts(s, h), m.parts(s, h));
                break;
            case 2:
                int sortWhat = 10 * near(0, 2) + what;
                due("fits " + sortWhat, x.fits(s, h, sortWhat), m.fits(s, h, sortWhat));
                break;
            case 3:
                due("whose", x.whose(s, what), m.whose(s, what));
                break;
            case 4:
                due("rule", x.rule(s, h, what), m.rule(s, h, what));
                break;
            case 5:
                due("laws", x.laws(s, h), m.laws(s, h));
                break;
            case 6:
                due("film", x.film(s, h), m.film(s, h));
                break;
            default:
                if (m.noHand(h) || Model.out(s, 0, 3)) return;
                int n = lot.nextInt(5), sort = 1 + lot.nextInt(2);
                due("sheet", x.sheet(s, sort, n), m.sheet(s, sort, n));
                for (int i = 0; i < n; i++) {
                    int end = m.stops(h, lot.nextInt(3), 0);
                    due("cell", x.cell(s, i, end), m.cell(s, i, end));
                }
                due("judge", x.judge(s, h), m.judge(s, h));
                due("parts", x.parts(s, h), m.parts(s, h));
        }
    }

    private void lots() {
        int seed = near(0, 99999), h = handByLot();
        switch (lot.nextInt(6)) {
            case 0:
                int what = near(0, 1);
                due("drawn", x.drawn(seed, h, what), m.drawn(seed, h, what));
                break;
            case 1:
                int seeds = near(1, 99), part = near(0, 1);
                due("odds", x.odds(seed, seeds, h, part), m.odds(seed, seeds, h, part));
                break;
            case 2:
                int w = near(0, 2);
                due("book", x.book(w), m.book(w));
                break;
            case 3:
                if (lot.nextInt(4) == 0) due("image", x.image(), m.image());
                break;
            case 4:
                if (lot.nextInt(6) == 0) due("back", x.back(), m.back());
                break;
            default:
                due("serve", x.serve(seed, h), m.serve(seed, h));
        }
    }

    private void host() {
        int s = near(0, 3), sort = near(-1, 2);
        switch (lot.nextInt(5)) {
            case 0:
                int size = near(0, 40);
                due("sheet", x.sheet(s, sort, size), m.sheet(s, sort, size));
                break;
            case 1:
                int i = near(0, 40), v = lot.nextBoolean() ? lot.nextInt() : near(-300, 700);
                due("cell", x.cell(s, i, v), m.cell(s, i, v));
                break;
            case 2:
                int other = lot.nextBoolean() ? s : near(0, 3), from = near(0, 20), to = near(0, 20), n = near(0, 20);
                due("copy", x.copy(s, from, other, to, n), m.copy(s, from, other, to, n));
                break;
            case 3:
                int at = near(0, 10), many = near(0, 5);
                int of = Model.out(s, 0, 3) || lot.nextInt(3) == 0 ? sort : m.sorts[s];
                due("handsBy", x.handsBy(s, of, at, many), m.handsBy(s, of, at, many));
                break;
            default:
                int place = near(0, 6), kind = near(0, 6);
                due("taken", x.taken(place, kind), m.taken(place, kind));
        }
    }

    private void go() {
        int hands = lot.nextInt(6);
        for (int h = 0; h < hands; h++) {
            int km = lot.nextInt(60), a = lot.nextInt(lot.nextBoolean() ? 20 : 100), c = lot.nextInt(501);
            due("hand", x.hand(km, a, c), m.hand(km, a, c));
        }
        for (int call = 0; call < CALLS - 60; call++) {
            int sort = lot.nextInt(100);
            if (sort < 12) law();
            else if (sort < 25) hands();
            else if (sort < 35) pump();
            else if (sort < 58) stops();
            else if (sort < 62) bests();
            else if (sort < 78) slips();
            else if (sort < 88) lots();
            else host();
        }
        for (int h = 0; h < 5; h++) for (int w = 0; w < 4; w++) due("told", x.told(h, w), m.told(h, w));
        for (int w = 0; w < 8; w++) due("count", x.count(w), m.count(w));
        for (int w = 0; w < 3; w++) due("book", x.book(w), m.book(w));
    }

    public static void main(String[] args) {
        for (int run = 0; run < RUNS; run++) new ModelTest(run).go();
        Due.end("ModelTest");
    }
}
