import java.util.ArrayList;
import java.util.List;

/** Long runs of calls, wrong ones among them, answered by the class as by the model. */
public final class RandomRunsTest {
    private static final int RUNS = 300;
    private static final int CALLS = 440;

    private final Dice dice;
    private final GasNominations x = new GasNominations();
    private final Model m = new Model();
    private final List<String> trace = new ArrayList<>();
    private boolean right = true;

    private RandomRunsTest(int seed) {
        dice = new Dice(seed);
    }

    public static void main(String[] args) {
        Check check = new Check("random runs");
        int first = args.length > 0 ? Integer.parseInt(args[0]) : 1;
        int runs = args.length > 1 ? Integer.parseInt(args[1]) : RUNS;
        for (int seed = first; seed < first + runs; seed++) {
            check.isTrue("run " + seed, new RandomRunsTest(seed).run());
        }
        check.finish();
    }

    private boolean run() {
        if (dice.once(5)) {
            callSome(20);
        }
        for (int i = 0; i < 6 && m.s.hubs == 0; i++) {
            tellText();
        }
        callSome(CALLS);
        return right;
    }

    private void callSome(int calls) {
        for (int i = 0; i < calls && right; i++) {
            if (dice.once(150)) {
                tellText();
            } else if (dice.once(2)) {
                act();
            } else {
                ask();
            }
        }
    }

    private void same(String call, long got, long want) {
        trace.add(call + " -> " + got);
        if (got != want && right) {
            right = false;
            for (String line : trace) {
                System.out.println("  " + line);
            }
            System.out.println("  due is " + want + " for " + m.told());
        }
    }

    private void tellText() {
        String text = new RandomText(dice).make();
        for (int i = 0; i < text.length(); i += 20) {
            int[] w = new int[5];
            for (int k = 0; k < 20; k++) {
                w[k / 4] = w[k / 4] << 8 | (i + k < text.length() ? text.charAt(i + k) & 255 : dice.below(256));
            }
            same("feed", x.feed(w[0], w[1], w[2], w[3], w[4]), m.feed(w[0], w[1], w[2], w[3], w[4]));
        }
        same("end", x.end(text.length()), m.end(text.length()));
        same("tell " + text, x.tell(), m.tell());
        same("letter(-1)", x.letter(-1), m.letter(-1));
    }

    private int hub() { return dice.near(0, m.s.hubs - 1); }
    private int point() { return dice.near(0, m.s.pts.size() - 1); }
    private int seg() { return dice.near(0, m.s.segs.size() - 1); }
    private int ship() { return dice.near(0, m.s.shs.size() - 1); }
    private int nom() { return dice.near(0, m.s.noms.size() - 1); }
    private int much() { return dice.once(3) ? dice.near(0, 9999) : dice.near(0, 150); }

    private int pointOf(boolean in) {
        if (dice.once(4)) {
            return dice.once(2) ? -1 : point();
        }
        List<Integer> fit = new ArrayList<>();
        for (int i = 0; i < m.s.pts.size(); i++) {
            if (m.s.pts.get(i).in == in) {
                fit.add(i);
            }
        }
        return fit.isEmpty() ? -1 : fit.get(dice.below(fit.size()));
    }

    private void act() {
        int a = ship(), b = ship(), n = much(), p = point();
        switch (dice.below(20)) {
            case 0, 1, 2 -> {
                int f = pointOf(true), t = pointOf(false);
                same("nominate " + a + " " + f + " " + t + " " + n, x.nominate(a, f, t, n), m.nominate(a, f, t, n));
            }
            case 3 -> { int k = nom(); same("renominate " + k + " " + n, x.renominate(k, n), m.renominate(k, n)); }
            case 4 -> { int k = nom(); if (dice.once(2)) same("withdraw " + k, x.withdraw(k), m.withdraw(k)); }
            case 5, 6 -> {
                int sort = dice.near(0, 1), k = sort == 0 ? p : seg();
                same("limit " + sort + " " + k + " " + n, x.limit(sort, k, n), m.limit(sort, k, n));
            }
            case 7, 8 -> { int v = dice.near(-99, 99); same("swing " + p + " " + v, x.swing(p, v), m.swing(p, v)); }
            case 9 -> {
                int w = dice.near(0, 3), v = w == 1 ? dice.near(1, 9) : n;
                same("contract " + a + " " + w + " " + v, x.contract(a, w, v), m.contract(a, w, v));
            }
            case 10 -> trades(n);
            case 11 -> { int h = hub(); same("move " + p + " " + h, x.move(p, h), m.move(p, h)); }
            case 12 -> { int v = dice.near(1, 20); same("lend " + a + " " + b + " " + v, x.lend(a, b, v), m.lend(a, b, v)); }
            case 13 -> { int v = dice.near(1, 20); same("store " + a + " " + v, x.store(a, v), m.store(a, v)); }
            case 14, 15, 16 -> same("day", x.day(), m.day());
            case 17 -> { if (dice.once(3)) same("close", x.close(), m.close()); }
            case 18 -> {
                if (dice.once(3)) {
                    for (int i = dice.from(1, 12); i > 0; i--) same("undo", x.undo(), m.undo());
                }
            }
            default -> {
                int k = dice.near(0, 1);
                if (dice.once(2)) same("keep " + k, x.keep(k), m.keep(k));
                else if (dice.once(4)) same("back " + k, x.back(k), m.back(k));
            }
        }
    }

    private void trades(int n) {
        for (int a = 0; a < m.s.shs.size(); a++) {
            for (int b = 0; b < m.s.shs.size(); b++) {
                long fits = Math.min(m.s.shs.get(a).balance, -m.s.shs.get(b).balance);
                if (fits > 0 && dice.once(2)) {
                    int v = (int) Math.min(9999, fits + dice.from(-1, 1));
                    same("trade " + a + " " + b + " " + v, x.trade(a, b, v), m.trade(a, b, v));
                    return;
                }
            }
        }
        int a = ship(), b = ship();
        same("trade " + a + " " + b + " " + n, x.trade(a, b, n), m.trade(a, b, n));
    }

    private void ask() {
        int a = ship(), k = nom(), p = point(), g = seg(), n = much(), w = dice.near(0, 4);
        switch (dice.below(31)) {
            case 0 -> same("point " + p + " " + w, x.point(p, w), m.point(p, w));
            case 1 -> same("segment " + g + " " + w, x.segment(g, w), m.segment(g, w));
            case 2 -> { int v = dice.near(0, 6); same("shipper " + a + " " + v, x.shipper(a, v), m.shipper(a, v)); }
            case 3 -> same("nomination " + k + " " + w, x.nomination(k, w), m.nomination(k, w));
            case 4 -> same("plan " + k + " " + w, x.plan(k, w), m.plan(k, w));
            case 5 -> same("cause " + k, x.cause(k), m.cause(k));
            case 6 -> { int i = dice.near(-1, 4); same("tight " + i, x.tight(i), m.tight(i)); }
            case 7 -> { boolean d = dice.once(2); same("flow " + g + " " + d, x.flow(g, d), m.flow(g, d)); }
            case 8 -> {
                int h = hub(), o = hub(), v = dice.near(0, 99999);
                same("leaves " + h + " " + o + " " + v, x.leaves(h, o, v), m.leaves(h, o, v));
            }
            case 9 -> {
                int h = hub(), o = hub(), v = dice.near(0, 99999);
                same("needs " + h + " " + o + " " + v, x.needs(h, o, v), m.needs(h, o, v));
            }
            case 10, 11 -> {
                int f = pointOf(true), t = pointOf(false);
                same("more " + a + " " + f + " " + t + " " + n, x.more(a, f, t, n), m.more(a, f, t, n));
            }
            case 12 -> same("gain " + k, x.gain(k), m.gain(k));
            case 13 -> {
                int sort = dice.near(0, 1), i = sort == 0 ? p : g;
                same("widen " + sort + " " + i + " " + n, x.widen(sort, i, n), m.widen(sort, i, n));
            }
            case 14 -> {
                int v = dice.once(4) ? dice.near(0, 99) : dice.near(0, 9);
                same("ahead " + a + " " + v, x.ahead(a, v), m.ahead(a, v));
            }
            case 15 -> { if (dice.once(3)) same("first " + a, x.first(a), m.first(a)); }
            case 16 -> { int i = dice.near(0, 7); same("log " + i + " " + a, x.log(i, a), m.log(i, a)); }
            case 17 -> same("fair " + k, x.fair(k), m.fair(k));
            case 18 -> {
                int t = pointOf(false), v = dice.near(0, 1);
                same("nearest " + t + " " + n + " " + v, x.nearest(t, n, v), m.nearest(t, n, v));
            }
            case 19 -> same("order " + a, x.order(a), m.order(a));
            case 20 -> {
                int c = k >= 0 && k < m.s.noms.size() ? m.cause(k) : 100 * dice.near(1, 5);
                same("blame " + c, x.blame(c), m.blame(c));
            }
            case 21 -> same("alone " + k, x.alone(k), m.alone(k));
            case 22 -> same("worst", x.worst(), m.worst());
            case 23, 24 -> { int i = dice.near(-1, 3), v = dice.near(0, 2); same("net " + i + " " + v, x.net(i, v), m.net(i, v)); }
            case 25 -> { int v = dice.near(0, 1); same("cash " + a + " " + v, x.cash(a, v), m.cash(a, v)); }
            case 26 -> { int s = dice.near(-1, m.s.shs.size() - 1); same("part " + s, x.part(s), m.part(s)); }
            case 27 -> same("total " + w, x.total(w), m.total(w));
            case 28 -> { int v = dice.near(0, 1); same("price " + v, x.price(v), m.price(v)); }
            case 29 -> { int i = dice.near(-1, m.told().length()); same("letter " + i, x.letter(i), m.letter(i)); }
            default -> { int v = dice.near(0, 7); same("count " + v, x.count(v), m.count(v)); }
        }
    }
}
