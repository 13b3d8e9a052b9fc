import java.util.ArrayList;
import java.util.Collections;
import java.util.List;

/**
 * The document once more, written as plainly and unlike the class as can be: states are copied whole,
 * stops are searched, least numbers are counted up to. It is what random runs are compared with.
 */
final class Model {
    static final int NO = -2000000000;

    static final class Seg {
        int cap = 9999, fuel = 0;
        Seg copy() { Seg c = new Seg(); c.cap = cap; c.fuel = fuel; return c; }
    }

    static final class Pt {
        int hub, cap, swing = 0;
        boolean in;
        Pt copy() { Pt c = new Pt(); c.hub = hub; c.cap = cap; c.swing = swing; c.in = in; return c; }
    }

    static final class Sh {
        int firm, rank, tolerance, limit;
        long balance = 0, parked = 0, owes = 0;
        Sh copy() {
            Sh c = new Sh();
            c.firm = firm; c.rank = rank; c.tolerance = tolerance; c.limit = limit;
            c.balance = balance; c.parked = parked; c.owes = owes;
            return c;
        }
    }

    static final class Nom {
        int shipper, from, to, n;
        Nom(int shipper, int from, int to, int n) { this.shipper = shipper; this.from = from; this.to = to; this.n = n; }
        Nom copy() { return new Nom(shipper, from, to, n); }
    }

    static final class State {
        int hubs = 0, price = 0, fine = 0, day = 0;
        List<Seg> segs = new ArrayList<>();
        List<Pt> pts = new ArrayList<>();
        List<Sh> shs = new ArrayList<>();
        List<Nom> noms = new ArrayList<>();
        List<List<Long>> log = new ArrayList<>();
        long received = 0, taken = 0, fuel = 0, cashed = 0;

        State copy() {
            State c = new State();
            c.hubs = hubs; c.price = price; c.fine = fine; c.day = day;
            for (Seg s : segs) c.segs.add(s.copy());
            for (Pt p : pts) c.pts.add(p.copy());
            for (Sh s : shs) c.shs.add(s.copy());
            for (Nom n : noms) c.noms.add(n.copy());
            c.log.addAll(log);
            c.received = received; c.taken = taken; c.fuel = fuel; c.cashed = cashed;
            return c;
        }
    }

    /** A schedule: per nomination what is scheduled, firm, where it is first cut; per stop's name what is left. */
    static final class Plan {
        int[] got, firm, cause;
        java.util.Map<String, Integer> left = new java.util.LinkedHashMap<>();
        int all() { int s = 0; for (int g : got) s += g; return s; }
    }

    State s = new State();
    final List<State> past = new ArrayList<>();
    final State[] shelf = new State[2];
    String tape = "";

    // ---- the text

    private static final class Fault extends Exception {
        private static final long serialVersionUID = 1;
        final int code;
        Fault(int place, int kind) { code = 8 * place + kind; }
    }

    private String text;
    private int at;

    private void blanks() { while (at < text.length() && text.charAt(at) == ' ') at++; }

    private String run(char low, char high) {
        int start = at;
        while (at < text.length() && text.charAt(at) >= low && text.charAt(at) <= high) at++;
        return text.substring(start, at);
    }

    private int num(int least, int most) throws Fault {
        blanks();
        int start = at;
        String digits = run('0', '9');
        if (digits.isEmpty()) throw new Fault(start, 1);
        java.math.BigInteger v = new java.math.BigInteger(digits);
        if (v.compareTo(java.math.BigInteger.valueOf(least)) < 0 || v.compareTo(java.math.BigInteger.valueOf(most)) > 0) {
            throw new Fault(start, 2);
        }
        return v.intValue();
    }

    private int pointNum(State p, boolean in) throws Fault {
        blanks();
        int start = at;
        int k = num(0, p.pts.size() - 1);
        if (p.pts.get(k).in != in) throw new Fault(start, 2);
        return k;
    }

    private State parse(String whole) throws Fault {
        text = whole;
        at = 0;
        State p = new State();
        blanks();
        int start = at;
        if (!run('a', 'z').equals("hubs")) throw new Fault(start, 1);
        p.hubs = num(2, 8);
        for (int i = 0; i + 1 < p.hubs; i++) p.segs.add(new Seg());
        while (true) {
            blanks();
            if (at == text.length()) return p;
            if (text.charAt(at) != ';') throw new Fault(at, 1);
            at++;
            blanks();
            parsePart(p, at, run('a', 'z'));
        }
    }

    private void parsePart(State p, int start, String word) throws Fault {
        switch (word) {
            case "segment" -> {
                int k = num(0, p.hubs - 2);
                Seg seg = new Seg();
                seg.cap = num(0, 9999);
                seg.fuel = num(0, 50);
                p.segs.set(k, seg);
            }
            case "in", "out" -> {
                if (p.pts.size() == 10) throw new Fault(start, 3);
                Pt pt = new Pt();
                pt.in = word.equals("in");
                pt.hub = num(0, p.hubs - 1);
                pt.cap = num(0, 9999);
                p.pts.add(pt);
            }
            case "shipper" -> {
                if (p.shs.size() == 6) throw new Fault(start, 3);
                Sh sh = new Sh();
                sh.firm = num(0, 9999);
                sh.rank = num(1, 9);
                sh.tolerance = num(0, 9999);
                sh.limit = num(0, 9999);
                p.shs.add(sh);
            }
            case "nom", "park", "loan" -> {
                if (p.noms.size() == 16) throw new Fault(start, 3);
                int shipper = num(0, p.shs.size() - 1);
                int from = word.equals("loan") ? -1 : pointNum(p, true);
                int to = word.equals("park") ? -1 : pointNum(p, false);
                p.noms.add(new Nom(shipper, from, to, num(0, 9999)));
            }
            case "price" -> {
                int price = num(0, 999);
                int fine = num(0, 100);
                p.price = price;
                p.fine = fine;
            }
            default -> throw new Fault(start, 1);
        }
    }

    int feed(int a, int b, int c, int d, int e) {
        if (tape.length() > 380) return -1;
        StringBuilder t = new StringBuilder(tape);
        for (int v : new int[] {a, b, c, d, e}) {
            t.append((char) (v >>> 24)).append((char) (v >>> 16 & 255)).append((char) (v >>> 8 & 255)).append((char) (v & 255));
        }
        tape = t.toString();
        return tape.length();
    }

    int end(int n) {
        if (n < 0 || n > tape.length()) return -1;
        tape = tape.substring(0, n);
        return n;
    }

    int tell() {
        String whole = tape;
        tape = "";
        try {
            s = parse(whole);
        } catch (Fault f) {
            return -2 - f.code;
        }
        past.clear();
        return s.pts.size();
    }

    // ---- the schedule

    private static List<String> wayOf(State p, Nom n) {
        List<String> way = new ArrayList<>();
        if (n.from >= 0) way.add("in" + n.from);
        if (n.from >= 0 && n.to >= 0) {
            int a = p.pts.get(n.from).hub, b = p.pts.get(n.to).hub;
            for (int k = 0; k + 1 < p.hubs; k++) {
                if (a <= k && k + 1 <= b) way.add("up" + k);
                if (b <= k && k + 1 <= a) way.add("down" + k);
            }
        }
        if (n.to >= 0) way.add("out" + n.to);
        if (n.to < 0) way.add("park" + n.shipper);
        if (n.from < 0) way.add("loan" + n.shipper);
        return way;
    }

    static Plan planOf(State p, boolean oneClass) {
        Plan plan = new Plan();
        int many = p.noms.size();
        plan.got = new int[many];
        plan.firm = new int[many];
        plan.cause = new int[many];
        java.util.Arrays.fill(plan.cause, -2);
        for (int k = 0; k < p.pts.size(); k++) if (p.pts.get(k).in) plan.left.put("in" + k, p.pts.get(k).cap);
        for (int k = 0; k < p.segs.size(); k++) plan.left.put("up" + k, p.segs.get(k).cap);
        for (int k = 0; k < p.segs.size(); k++) plan.left.put("down" + k, p.segs.get(k).cap);
        for (int k = 0; k < p.pts.size(); k++) if (!p.pts.get(k).in) plan.left.put("out" + k, p.pts.get(k).cap);
        for (int k = 0; k < p.shs.size(); k++) {
            plan.left.put("park" + k, (int) (p.shs.get(k).limit - p.shs.get(k).parked));
            plan.left.put("loan" + k, (int) (p.shs.get(k).limit + p.shs.get(k).parked));
        }
        int[] firm = new int[many];
        int[] used = new int[p.shs.size()];
        for (int i = 0; i < many && !oneClass; i++) {
            Nom n = p.noms.get(i);
            firm[i] = Math.max(0, Math.min(n.n, p.shs.get(n.shipper).firm - used[n.shipper]));
            used[n.shipper] += firm[i];
        }
        if (!oneClass) {
            go(p, plan, firm.clone());
            plan.firm = plan.got.clone();
        }
        for (int rank = 1; rank <= 9; rank++) {
            int[] asked = new int[many];
            for (int i = 0; i < many; i++) {
                Nom n = p.noms.get(i);
                if (oneClass ? rank == 1 : p.shs.get(n.shipper).rank == rank) asked[i] = n.n - firm[i];
            }
            go(p, plan, asked);
        }
        return plan;
    }

    private static void go(State p, Plan plan, int[] parts) {
        for (String stop : plan.left.keySet()) {
            List<Integer> here = new ArrayList<>();
            long all = 0;
            for (int i = 0; i < parts.length; i++) {
                if (wayOf(p, p.noms.get(i)).contains(stop)) {
                    here.add(i);
                    all += parts[i];
                }
            }
            long left = plan.left.get(stop);
            if (all <= left) continue;
            int[] was = parts.clone();
            long over = left;
            for (int i : here) {
                parts[i] = (int) (was[i] * left / all);
                over -= parts[i];
            }
            for (int i : here) {
                if (over > 0 && parts[i] < was[i]) {
                    parts[i]++;
                    over--;
                }
            }
            for (int i : here) {
                if (parts[i] < was[i] && plan.cause[i] == -2) plan.cause[i] = causeOf(stop);
            }
        }
        for (int i = 0; i < parts.length; i++) {
            plan.got[i] += parts[i];
            for (String stop : wayOf(p, p.noms.get(i))) plan.left.merge(stop, -parts[i], Integer::sum);
        }
    }

    private static int causeOf(String stop) {
        if (stop.startsWith("in")) return 100;
        if (stop.startsWith("up")) return 200 + Integer.parseInt(stop.substring(2));
        if (stop.startsWith("down")) return 300 + Integer.parseInt(stop.substring(4));
        return stop.startsWith("out") ? 400 : 500;
    }

    static int over(State p, int a, int b, int n) {
        List<Integer> way = new ArrayList<>();
        for (int k = Math.min(a, b); k < Math.max(a, b); k++) way.add(k);
        if (a > b) Collections.reverse(way);
        for (int k : way) n = n - n * p.segs.get(k).fuel / 1000;
        return n;
    }

    private static int least(State p, int a, int b, int much) {
        for (int n = 0; n <= 99999; n++) if (over(p, a, b, n) >= much) return n;
        return -2;
    }

    private static int deliv(State p, int i, int got) {
        Nom n = p.noms.get(i);
        return n.from < 0 || n.to < 0 ? got : over(p, p.pts.get(n.from).hub, p.pts.get(n.to).hub, got);
    }

    static int dayOn(State p) {
        Plan plan = planOf(p, false);
        for (int i = 0; i < p.noms.size(); i++) {
            Nom n = p.noms.get(i);
            Sh sh = p.shs.get(n.shipper);
            int got = plan.got[i];
            int out = deliv(p, i, got);
            long received = n.from < 0 ? 0 : Math.floorDiv(got * (100 + p.pts.get(n.from).swing), 100);
            long taken = n.to < 0 ? 0 : Math.floorDiv(out * (100 + p.pts.get(n.to).swing), 100);
            if (n.to < 0) {
                sh.balance += received - got;
                sh.parked += got;
            } else if (n.from < 0) {
                sh.balance += got - taken;
                sh.parked -= got;
            } else {
                sh.balance += received - (got - out) - taken;
                p.fuel += got - out;
            }
            p.received += received;
            p.taken += taken;
        }
        List<Long> row = new ArrayList<>();
        for (Sh sh : p.shs) row.add(sh.balance);
        p.log.add(0, row);
        if (p.log.size() > 8) p.log.remove(8);
        p.day++;
        return plan.all();
    }

    // ---- acts

    private boolean sh(int k) { return k >= 0 && k < s.shs.size(); }
    private boolean pt(int k) { return k >= 0 && k < s.pts.size(); }
    private boolean seg(int k) { return k >= 0 && k < s.segs.size(); }
    private boolean nom(int k) { return k >= 0 && k < s.noms.size(); }
    private boolean hub(int k) { return k >= 0 && k < s.hubs; }
    private static boolean fits(int n, int a, int b) { return a <= n && n <= b; }

    private State act() {
        past.add(s);
        if (past.size() > 10) past.remove(0);
        s = s.copy();
        return s;
    }

    private boolean tellable(int shipper, int from, int to, int n) {
        if (!sh(shipper) || !fits(n, 1, 9999)) return false;
        if (from == -1 && to == -1) return false;
        if (from != -1 && !(pt(from) && s.pts.get(from).in)) return false;
        return to == -1 || pt(to) && !s.pts.get(to).in;
    }

    int nominate(int shipper, int from, int to, int n) {
        if (!tellable(shipper, from, to, n)) return -1;
        if (s.noms.size() == 16) return -2;
        act().noms.add(new Nom(shipper, from, to, n));
        return s.noms.size() - 1;
    }

    int renominate(int k, int n) {
        if (!nom(k) || !fits(n, 0, 9999)) return -1;
        int was = s.noms.get(k).n;
        if (was == n) return -2;
        act().noms.get(k).n = n;
        return was;
    }

    int withdraw(int k) {
        if (!nom(k)) return -1;
        act().noms.remove(k);
        return s.noms.size();
    }

    int limit(int sort, int k, int cap) {
        if (!fits(cap, 0, 9999) || !(sort == 0 && pt(k) || sort == 1 && seg(k))) return -1;
        int was = sort == 0 ? s.pts.get(k).cap : s.segs.get(k).cap;
        if (was == cap) return -2;
        act();
        if (sort == 0) s.pts.get(k).cap = cap; else s.segs.get(k).cap = cap;
        return was;
    }

    int swing(int k, int v) {
        if (!pt(k) || !fits(v, -99, 99)) return -100;
        int was = s.pts.get(k).swing;
        if (was == v) return -101;
        act().pts.get(k).swing = v;
        return was;
    }

    int contract(int k, int what, int n) {
        if (!sh(k) || !fits(what, 0, 3) || !(what == 1 ? fits(n, 1, 9) : fits(n, 0, 9999))) return -1;
        Sh old = s.shs.get(k);
        int was = new int[] {old.firm, old.rank, old.tolerance, old.limit}[what];
        if (was == n) return -2;
        if (what == 3 && (old.parked > n || -old.parked > n)) return -3;
        Sh sh = act().shs.get(k);
        if (what == 0) sh.firm = n;
        if (what == 1) sh.rank = n;
        if (what == 2) sh.tolerance = n;
        if (what == 3) sh.limit = n;
        return was;
    }

    int trade(int k, int o, int n) {
        if (!sh(k) || !sh(o) || k == o || !fits(n, 1, 9999)) return -1;
        if (s.shs.get(k).balance - n < 0 || s.shs.get(o).balance + n > 0) return -2;
        act();
        s.shs.get(k).balance -= n;
        s.shs.get(o).balance += n;
        return 1;
    }

    int move(int k, int h) {
        if (!pt(k) || !hub(h)) return -1;
        int was = s.pts.get(k).hub;
        if (was == h) return -2;
        act().pts.get(k).hub = h;
        return was;
    }

    int lend(int k, int o, int n) {
        if (!sh(k) || !sh(o) || k == o || !fits(n, 1, 9999)) return -1;
        if (s.shs.get(k).parked < n) return -2;
        if (s.shs.get(o).parked + n > s.shs.get(o).limit) return -3;
        act();
        s.shs.get(k).parked -= n;
        s.shs.get(o).parked += n;
        return 1;
    }

    int store(int k, int n) {
        if (!sh(k) || !fits(n, 1, 9999)) return -1;
        if (s.shs.get(k).balance < n) return -2;
        if (s.shs.get(k).parked + n > s.shs.get(k).limit) return -3;
        act();
        s.shs.get(k).balance -= n;
        s.shs.get(k).parked += n;
        return 1;
    }

    int day() {
        if (s.hubs == 0) return -1;
        if (s.day == 999) return -2;
        State next = s.copy();
        int all = dayOn(next);
        for (Sh sh : next.shs) if (sh.balance > 999999 || sh.balance < -999999) return -3;
        act();
        s = next;
        return all;
    }

    private long[] cashed(Sh sh) {
        long over = Math.abs(sh.balance) - sh.tolerance;
        if (over <= 0) return new long[] {0, 0};
        if (sh.balance < 0) return new long[] {-over, over * s.price * (100 + s.fine) / 100};
        return new long[] {over, -(over * s.price * (100 - s.fine) / 100)};
    }

    int close() {
        if (s.hubs == 0) return -1;
        int many = 0;
        for (Sh sh : s.shs) if (cashed(sh)[0] != 0) many++;
        if (many == 0) return -2;
        act();
        for (Sh sh : s.shs) {
            long[] c = cashed(sh);
            sh.balance -= c[0];
            sh.owes += c[1];
            s.cashed += c[0];
        }
        return many;
    }

    int undo() {
        if (past.isEmpty()) return -1;
        s = past.remove(past.size() - 1);
        return past.size();
    }

    int keep(int k) {
        if (!fits(k, 0, 1)) return -1;
        shelf[k] = s.copy();
        return s.pts.size();
    }

    int back(int k) {
        if (!fits(k, 0, 1)) return -1;
        if (shelf[k] == null) return -2;
        s = shelf[k].copy();
        past.clear();
        return s.pts.size();
    }

    // ---- questions

    private Plan now() { return planOf(s, false); }

    private int leftAt(Plan plan, int k) { return plan.left.get((s.pts.get(k).in ? "in" : "out") + k); }

    int point(int k, int what) {
        if (!pt(k) || !fits(what, 0, 4)) return -1;
        Pt p = s.pts.get(k);
        return new int[] {p.hub, p.in ? 1 : 0, p.cap, p.swing + 100, leftAt(now(), k)}[what];
    }

    int segment(int k, int what) {
        if (!seg(k) || !fits(what, 0, 3)) return -1;
        Plan plan = now();
        return new int[] {s.segs.get(k).cap, s.segs.get(k).fuel, plan.left.get("up" + k), plan.left.get("down" + k)}[what];
    }

    long shipper(int k, int what) {
        if (!sh(k) || !fits(what, 0, 6)) return NO;
        Sh h = s.shs.get(k);
        return new long[] {h.firm, h.rank, h.tolerance, h.limit, h.balance, h.parked, h.owes}[what];
    }

    int nomination(int k, int what) {
        if (!nom(k) || !fits(what, 0, 3)) return -2;
        Nom n = s.noms.get(k);
        return new int[] {n.shipper, n.from, n.to, n.n}[what];
    }

    int plan(int k, int what) {
        if (!nom(k) || !fits(what, 0, 4)) return -1;
        Plan plan = now();
        int got = plan.got[k], out = deliv(s, k, got);
        return new int[] {got, plan.firm[k], out, got - out, s.noms.get(k).n - got}[what];
    }

    int cause(int k) { return nom(k) ? now().cause[k] : -1; }

    int tight(int k) {
        if (k < -1 || s.hubs == 0) return -1;
        Plan plan = now();
        List<Integer> stops = new ArrayList<>();
        for (int i = 0; i < s.pts.size(); i++) if (leftAt(plan, i) == 0) stops.add(100 + i);
        for (int i = 0; i < s.segs.size(); i++) if (plan.left.get("up" + i) == 0) stops.add(200 + i);
        for (int i = 0; i < s.segs.size(); i++) if (plan.left.get("down" + i) == 0) stops.add(300 + i);
        return k == -1 ? stops.size() : k < stops.size() ? stops.get(k) : -2;
    }

    int flow(int k, boolean down) {
        if (!seg(k)) return -1;
        Plan plan = now();
        int sum = 0;
        for (int i = 0; i < s.noms.size(); i++) {
            if (wayOf(s, s.noms.get(i)).contains((down ? "down" : "up") + k)) sum += plan.got[i];
        }
        return sum;
    }

    int leaves(int a, int b, int n) { return hub(a) && hub(b) && fits(n, 0, 99999) ? over(s, a, b, n) : -1; }

    int needs(int a, int b, int much) { return hub(a) && hub(b) && fits(much, 0, 99999) ? least(s, a, b, much) : -1; }

    int more(int shipper, int from, int to, int n) {
        if (!tellable(shipper, from, to, n)) return -1;
        if (s.noms.size() == 16) return -2;
        State t = s.copy();
        t.noms.add(new Nom(shipper, from, to, n));
        return planOf(t, false).got[t.noms.size() - 1];
    }

    int gain(int k) {
        if (!nom(k)) return -1;
        Plan plan = now();
        State t = s.copy();
        t.noms.remove(k);
        return planOf(t, false).all() - (plan.all() - plan.got[k]) + 100000;
    }

    int widen(int sort, int k, int cap) {
        if (!fits(cap, 0, 9999) || !(sort == 0 && pt(k) || sort == 1 && seg(k))) return -1;
        State t = s.copy();
        if (sort == 0) t.pts.get(k).cap = cap; else t.segs.get(k).cap = cap;
        return planOf(t, false).all() - now().all() + 100000;
    }

    long ahead(int k, int n) {
        if (!sh(k) || !fits(n, 0, 99)) return NO;
        State t = s.copy();
        for (int i = 0; i < n; i++) dayOn(t);
        return t.shs.get(k).balance;
    }

    int first(int k) {
        if (!sh(k)) return -1;
        State t = s.copy();
        for (int i = 0; i <= 99; i++) {
            if (Math.abs(t.shs.get(k).balance) > t.shs.get(k).tolerance) return i;
            dayOn(t);
        }
        return -2;
    }

    int log(int i, int k) { return sh(k) && fits(i, 0, s.log.size() - 1) ? s.log.get(i).get(k).intValue() : NO; }

    int fair(int k) { return nom(k) ? planOf(s, true).got[k] : -1; }

    int nearest(int to, int much, int what) {
        if (!pt(to) || s.pts.get(to).in || !fits(much, 0, 9999) || !fits(what, 0, 1)) return -1;
        int[] best = {-2, -2};
        for (int i = 0; i < s.pts.size(); i++) {
            if (!s.pts.get(i).in) continue;
            int n = least(s, s.pts.get(i).hub, s.pts.get(to).hub, much);
            if (n != -2 && (best[0] == -2 || n < best[1])) best = new int[] {i, n};
        }
        return best[what];
    }

    int order(int k) {
        if (!sh(k)) return -1;
        List<Integer> all = new ArrayList<>();
        for (int i = 0; i < s.shs.size(); i++) all.add(i);
        all.sort((a, b) -> s.shs.get(a).rank != s.shs.get(b).rank ? s.shs.get(a).rank - s.shs.get(b).rank : a - b);
        return all.get(k);
    }

    int blame(int stop) {
        if (s.hubs == 0) return -1;
        int bits = 0;
        for (int i = 0; i < s.noms.size(); i++) if (cause(i) == stop) bits += 1 << i;
        return bits;
    }

    int alone(int k) {
        if (!nom(k)) return -1;
        State t = s.copy();
        Nom only = t.noms.get(k);
        t.noms.clear();
        t.noms.add(only);
        return planOf(t, false).got[0];
    }

    int worst() {
        if (s.hubs == 0) return -1;
        int who = -2;
        for (int k = 0; k < s.shs.size(); k++) {
            boolean any = false;
            for (Nom n : s.noms) any |= n.shipper == k && n.n > 0;
            if (any && (who == -2 || part(k) < part(who))) who = k;
        }
        return who;
    }

    int net(int k, int what) {
        if (s.hubs == 0 || k < -1 || !fits(what, 0, 2) || k == -1 && what == 1) return -1;
        List<int[]> trades = new ArrayList<>();
        List<Long> b = new ArrayList<>();
        for (Sh h : s.shs) b.add(h.balance);
        while (true) {
            int up = -1, down = -1;
            for (int i = b.size() - 1; i >= 0; i--) {
                if (b.get(i) > 0) up = i;
                if (b.get(i) < 0) down = i;
            }
            if (up < 0 || down < 0) break;
            long n = Math.min(b.get(up), -b.get(down));
            b.set(up, b.get(up) - n);
            b.set(down, b.get(down) + n);
            trades.add(new int[] {up, down, (int) n});
        }
        if (k == -1) return what == 0 ? trades.size() : trades.stream().mapToInt(t -> t[2]).sum();
        return k < trades.size() ? trades.get(k)[what] : -2;
    }

    long cash(int k, int what) { return sh(k) && fits(what, 0, 1) ? cashed(s.shs.get(k))[what] : NO; }

    int part(int k) {
        if (s.hubs == 0 || k != -1 && !sh(k)) return -1;
        long n = 0, got = 0;
        Plan plan = now();
        for (int i = 0; i < s.noms.size(); i++) {
            if (k != -1 && s.noms.get(i).shipper != k) continue;
            n += s.noms.get(i).n;
            got += plan.got[i];
        }
        return n == 0 ? 1000 : (int) (got * 1000 / n);
    }

    long total(int what) {
        if (s.hubs == 0 || !fits(what, 0, 4)) return -1;
        long books = 0;
        for (Sh h : s.shs) books += h.balance + h.parked;
        return new long[] {s.received, s.taken, s.fuel, s.cashed, books}[what];
    }

    int price(int what) { return s.hubs == 0 || !fits(what, 0, 1) ? -1 : what == 0 ? s.price : s.fine; }

    String told() {
        if (s.hubs == 0) return "";
        List<String> parts = new ArrayList<>();
        parts.add("hubs " + s.hubs);
        for (int i = 0; i < s.segs.size(); i++) parts.add("segment " + i + " " + s.segs.get(i).cap + " " + s.segs.get(i).fuel);
        for (Pt p : s.pts) parts.add((p.in ? "in " : "out ") + p.hub + " " + p.cap);
        for (Sh h : s.shs) parts.add("shipper " + h.firm + " " + h.rank + " " + h.tolerance + " " + h.limit);
        for (Nom n : s.noms) {
            if (n.from < 0) parts.add("loan " + n.shipper + " " + n.to + " " + n.n);
            else if (n.to < 0) parts.add("park " + n.shipper + " " + n.from + " " + n.n);
            else parts.add("nom " + n.shipper + " " + n.from + " " + n.to + " " + n.n);
        }
        parts.add("price " + s.price + " " + s.fine);
        return String.join(";", parts);
    }

    int letter(int k) {
        if (k < -1) return -1;
        String t = told();
        return k == -1 ? t.length() : k < t.length() ? t.charAt(k) : -2;
    }

    int count(int what) {
        if (!fits(what, 0, 7)) return -1;
        int kept = (shelf[0] == null ? 0 : 1) + (shelf[1] == null ? 0 : 2);
        return new int[] {s.hubs, s.pts.size(), s.shs.size(), s.noms.size(), s.day, past.size(), tape.length(), kept}[what];
    }
}
