/** The edges of promises 20 to 48: each question's least and largest numbers, and that no question changes anything. */
public final class QuestionEdgesTest {
    private static final int NONE = GasNominations.NONE;
    private static final int REFUSED = -2;
    private static final int NO = -2000000000;
    private static final int FAR = Integer.MAX_VALUE;

    private static final Check CHECK = new Check("edges of questions");
    private static final Edges EDGES = new Edges(CHECK);

    private QuestionEdgesTest() {
    }

    public static void main(String[] args) {
        withoutPipe();
        withoutPipeOfNominations();
        pointBounds();
        segmentBounds();
        shipperBounds();
        nominationBounds();
        planBounds();
        causeBounds();
        tightBounds();
        tightEverywhere();
        flowBounds();
        leavesBounds();
        needsBounds();
        needsNoneSo();
        moreBounds();
        moreSixteen();
        gainBounds();
        widenBounds();
        questionsByThemselves();
        aheadBounds();
        aheadTillTheLimit();
        firstBounds();
        firstEitherWay();
        logBounds();
        fairBounds();
        nearestBounds();
        nearestOfSeveral();
        orderBounds();
        blameBounds();
        aloneBounds();
        worstBounds();
        netBounds();
        netFiveTrades();
        netEitherSide();
        netOfFewer();
        cashBounds();
        partBounds();
        partDownwards();
        totalBounds();
        priceBounds();
        letterBounds();
        letterOfAll();
        countBounds();
        CHECK.finish();
    }

    private static void due(String what, long got, long want) {
        CHECK.due(what, got, want);
    }

    /** The question answers so, number by number from the least on, and is refused outside; all is as it was. */
    private static void row(String what, Edges.Open call, long refusal, int least, long... want) {
        for (int i = 0; i < want.length; i++) {
            int number = least + i;
            EDGES.still(what + " " + number, x -> call.on(x, number), want[i]);
        }
        EDGES.refusesOutside(what, least, least + want.length - 1, call, refusal);
    }

    private static GasNominations days(GasNominations x, int days) {
        for (int i = 0; i < days; i++) {
            x.day();
        }
        return x;
    }

    private static void withoutPipe() {
        EDGES.start(GasNominations::new);
        EDGES.refuses("no pipe: point", (x, k) -> x.point(k, 0), NONE, 0, 1, -1);
        EDGES.refuses("no pipe: point", (x, what) -> x.point(0, what), NONE, 0, 4, 5);
        EDGES.refuses("no pipe: segment", (x, what) -> x.segment(0, what), NONE, 0, 2, 4);
        EDGES.refuses("no pipe: shipper", (x, what) -> x.shipper(0, what), NO, 0, 6, 7);
        EDGES.refuses("no pipe: tight", (x, k) -> x.tight(k), NONE, NONE, 0, -2, FAR);
        EDGES.refuses("no pipe: flow", (x, k) -> x.flow(k, k == 0), NONE, 0, -1);
        EDGES.refuses("no pipe: leaves", (x, n) -> x.leaves(0, 0, n), NONE, 0, 1, -1);
        EDGES.refuses("no pipe: needs", (x, n) -> x.needs(0, 0, n), NONE, 0, 1, 99999);
        EDGES.refuses("no pipe: widen", (x, sort) -> x.widen(sort, 0, 1), NONE, 0, 1, 2);
        EDGES.refuses("no pipe: ahead", (x, n) -> x.ahead(0, n), NO, 0, 99);
        EDGES.refuses("no pipe: first", (x, k) -> x.first(k), NONE, 0, -1);
        EDGES.refuses("no pipe: log", (x, i) -> x.log(i, 0), NO, 0, -1, 8);
        EDGES.refuses("no pipe: nearest", (x, k) -> x.nearest(k, 0, 0), NONE, 0, -1);
        EDGES.refuses("no pipe: order", (x, k) -> x.order(k), NONE, 0, -1);
        EDGES.refuses("no pipe: net", (x, k) -> x.net(k, 0), NONE, NONE, 0, FAR);
        EDGES.refuses("no pipe: cash", (x, what) -> x.cash(0, what), NO, 0, 1);
        EDGES.refuses("no pipe: part", (x, k) -> x.part(k), NONE, NONE, 0);
        EDGES.refuses("no pipe: total", (x, what) -> x.total(what), NONE, 0, 3, 4);
        EDGES.refuses("no pipe: price", (x, what) -> x.price(what), NONE, 0, 1);
        EDGES.still("no pipe: worst", x -> x.worst(), NONE);
        EDGES.refuses("no pipe: letter, none", (x, k) -> x.letter(k), REFUSED, 0, 1, FAR);
        EDGES.still("no pipe: letter, how many", x -> x.letter(NONE), 0);
        EDGES.refuses("no pipe: letter, below NONE", (x, k) -> x.letter(k), NONE, -2, Integer.MIN_VALUE);
    }

    private static void withoutPipeOfNominations() {
        EDGES.start(GasNominations::new);
        EDGES.refuses("no pipe: nomination", (x, what) -> x.nomination(0, what), REFUSED, 0, 3);
        EDGES.refuses("no pipe: plan", (x, what) -> x.plan(0, what), NONE, 0, 4);
        EDGES.still("no pipe: cause", x -> x.cause(0), NONE);
        EDGES.still("no pipe: more", x -> x.more(0, 0, 1, 1), NONE);
        EDGES.still("no pipe: gain", x -> x.gain(0), NONE);
        EDGES.still("no pipe: fair", x -> x.fair(0), NONE);
        EDGES.still("no pipe: alone", x -> x.alone(0), NONE);
        EDGES.refuses("no pipe: blame", (x, stop) -> x.blame(stop), NONE, -2, NONE, 100, 500);
        EDGES.start(() -> Texts.told("hubs 2"));
        EDGES.still("no nomination: nomination", x -> x.nomination(0, 0), REFUSED);
        EDGES.still("no nomination: plan", x -> x.plan(0, 0), NONE);
        EDGES.still("no nomination: cause", x -> x.cause(0), NONE);
        EDGES.still("no nomination: gain", x -> x.gain(0), NONE);
        EDGES.still("no nomination: fair", x -> x.fair(0), NONE);
        EDGES.still("no nomination: alone", x -> x.alone(0), NONE);
        EDGES.refuses("no nomination: blame", (x, stop) -> x.blame(stop), 0, -2, NONE, 100, 500);
    }

    // ---- promises 20 to 24; of the rich pipe 50, 50, 0 and 10 are scheduled

    private static void pointBounds() {
        EDGES.start(Pipes::rich);
        row("point: 0, what", (x, what) -> x.point(0, what), NONE, 0, 0, 1, 200, 110, 100);
        row("point: 3, what", (x, what) -> x.point(3, what), NONE, 0, 2, 0, 60, 125, 0);
        row("point: cap of", (x, k) -> x.point(k, 2), NONE, 0, 200, 90, 70, 60);
        row("point: left of", (x, k) -> x.point(k, 4), NONE, 0, 100, 90, 20, 0);
        row("point: swing of", (x, k) -> x.point(k, 3), NONE, 0, 110, 93, 1, 125);
        EDGES.start(Pipes::full);
        row("point: hub of ten", (x, k) -> x.point(k, 0), NONE, 0, 7, 0, 7, 0, 7, 0, 7, 0, 7, 0);
        EDGES.start(Pipes::large);
        EDGES.still("point: the highest swing", x -> x.point(0, 3), 199);
        EDGES.still("point: nothing is left", x -> x.point(0, 4), 0);
        EDGES.still("point: all is left", x -> x.point(2, 4), 9999);
        EDGES.start(() -> Texts.told("hubs 2"));
        EDGES.still("point: none is there", x -> x.point(0, 0), NONE);
    }

    private static void segmentBounds() {
        EDGES.start(Pipes::rich);
        row("segment: 0, what", (x, what) -> x.segment(0, what), NONE, 0, 100, 50, 0, 100);
        row("segment: 1, what", (x, what) -> x.segment(1, what), NONE, 0, 80, 20, 30, 80);
        row("segment: cap of", (x, k) -> x.segment(k, 0), NONE, 0, 100, 80);
        row("segment: left up of", (x, k) -> x.segment(k, 2), NONE, 0, 0, 30);
        EDGES.start(() -> Texts.told("hubs 2"));
        row("segment: the only one", (x, k) -> x.segment(k, 3), NONE, 0, 9999);
        EDGES.start(() -> Texts.told("hubs 8"));
        row("segment: fuel of seven", (x, k) -> x.segment(k, 1), NONE, 0, 0, 0, 0, 0, 0, 0, 0);
    }

    private static void shipperBounds() {
        EDGES.start(Pipes::rich);
        row("shipper: 0, what", (x, what) -> x.shipper(0, what), NO, 0, 50, 2, 10, 30, -10, 30, 0);
        row("shipper: 1, what", (x, what) -> x.shipper(1, what), NO, 0, 0, 1, 5, 40, 51, -10, 0);
        row("shipper: balance of", (x, k) -> x.shipper(k, 4), NO, 0, -10, 51);
        EDGES.start(Pipes::full);
        row("shipper: rank of six", (x, k) -> x.shipper(k, 1), NO, 0, 1, 1, 1, 1, 1, 9);
        row("shipper: owes of six", (x, k) -> x.shipper(k, 6), NO, 0, 0, 0, 0, 0, 0, 0);
    }

    private static void nominationBounds() {
        EDGES.start(Pipes::rich);
        row("nomination: 0, what", (x, what) -> x.nomination(0, what), REFUSED, 0, 0, 0, 3, 60);
        row("nomination: parked, what", (x, what) -> x.nomination(2, what), REFUSED, 0, 0, 1, NONE, 40);
        row("nomination: a loan, what", (x, what) -> x.nomination(3, what), REFUSED, 0, 1, NONE, 3, 10);
        row("nomination: how much of", (x, k) -> x.nomination(k, 3), REFUSED, 0, 60, 70, 40, 10);
        EDGES.start(Pipes::full);
        EDGES.still("nomination: the 16th", x -> x.nomination(15, 3), 9999);
        EDGES.still("nomination: no 17th", x -> x.nomination(16, 3), REFUSED);
    }

    private static void planBounds() {
        EDGES.start(Pipes::rich);
        row("plan: 0, what", (x, what) -> x.plan(0, what), NONE, 0, 50, 50, 48, 2, 10);
        row("plan: 1, what", (x, what) -> x.plan(1, what), NONE, 0, 50, 0, 48, 2, 20);
        row("plan: parked, what", (x, what) -> x.plan(2, what), NONE, 0, 0, 0, 0, 0, 40);
        row("plan: a loan, what", (x, what) -> x.plan(3, what), NONE, 0, 10, 0, 10, 0, 0);
        row("plan: scheduled of", (x, k) -> x.plan(k, 0), NONE, 0, 50, 50, 0, 10);
        EDGES.start(Pipes::plain);
        row("plan: all of what is parked, what", (x, what) -> x.plan(2, what), NONE, 0, 30, 0, 30, 0, 10);
        EDGES.start(Pipes::full);
        // FIRM of the sixth shipper: 105, 111 and all but those of 9999
        EDGES.still("plan: the 16th", x -> x.plan(15, 1), 9999 - 105 - 111);
        EDGES.still("plan: no 17th", x -> x.plan(16, 1), NONE);
    }

    // ---- promises 25 to 27

    private static void causeBounds() {
        EDGES.start(Pipes::rich);
        row("cause:", (x, k) -> x.cause(k), NONE, 0, 200, 200, 500, -2);
        EDGES.start(Pipes::full);
        EDGES.still("cause: no 17th", x -> x.cause(16), NONE);
        EDGES.still("cause: FIRM of the 16th fits, the rest does not", x -> x.cause(15), 300);
    }

    private static void tightBounds() {
        EDGES.start(Pipes::rich);
        EDGES.still("tight: how many", x -> x.tight(NONE), 2);
        EDGES.still("tight: the first", x -> x.tight(0), 103);
        EDGES.still("tight: the last", x -> x.tight(1), 200);
        EDGES.refuses("tight: not so many", (x, k) -> x.tight(k), REFUSED, 2, 3, FAR);
        EDGES.refuses("tight: below NONE", (x, k) -> x.tight(k), NONE, -2, -3, Integer.MIN_VALUE);
        EDGES.start(() -> Texts.told("hubs 2;in 0 1;out 1 1"));
        EDGES.still("tight: none", x -> x.tight(NONE), 0);
        EDGES.still("tight: none", x -> x.tight(0), REFUSED);
        GasNominations x = Texts.told("hubs 2;segment 0 9 0;in 0 10;out 1 10;shipper 0 1 0 0;nom 0 0 1 8");
        due("tight: 1 is left", x.tight(NONE), 0);
        x.renominate(0, 9);
        due("tight: nothing is left", x.tight(0), 200);
        due("tight: nothing is left", x.tight(NONE), 1);
        x.limit(1, 0, 10);
        x.renominate(0, 10);
        due("tight: all three", x.tight(NONE), 3);
        due("tight: the OUT point", x.tight(1), 101);
    }

    private static void tightEverywhere() {
        StringBuilder text = new StringBuilder("hubs 8");
        for (int i = 0; i < 7; i++) {
            text.append(";segment ").append(i).append(" 0 0");
        }
        text.append(";out 0 0;in 0 0".repeat(5));
        GasNominations x = Texts.told(text.toString());
        due("tight: a CAP of 0, too", x.tight(NONE), 24);
        for (int k = 0; k < 10; k++) {
            due("tight: points by numbers", x.tight(k), 100 + k);
        }
        for (int k = 0; k < 7; k++) {
            due("tight: segments up", x.tight(10 + k), 200 + k);
            due("tight: segments down", x.tight(17 + k), 300 + k);
        }
        due("tight: no more", x.tight(24), REFUSED);
    }

    private static void flowBounds() {
        EDGES.start(Pipes::rich);
        row("flow: up", (x, k) -> x.flow(k, false), NONE, 0, 100, 50);
        row("flow: down", (x, k) -> x.flow(k, true), NONE, 0, 0, 0);
        EDGES.start(Pipes::full);
        row("flow: down over seven", (x, k) -> x.flow(k, true), NONE, 0, 9999, 9999, 9999, 9999, 9999, 9999, 9999);
        GasNominations x = Texts.told("hubs 2;segment 0 0 0;in 0 9;out 1 9;shipper 0 1 0 0;nom 0 0 1 9");
        due("flow: a CAP of 0", x.flow(0, false), 0);
        due("flow: a CAP of 0", x.flow(0, true), 0);
        GasNominations y = Texts.told("hubs 2;segment 0 99 50;in 0 99;out 1 99;shipper 0 1 0 0;nom 0 0 1 40");
        y.swing(0, 50);
        due("flow: fuel is in it, a swing is not", y.flow(0, false), 40);
    }

    // ---- promises 28 and 29; fuel 50 and 20

    private static void leavesBounds() {
        EDGES.start(Pipes::rich);
        EDGES.still("leaves: 0", x -> x.leaves(0, 2, 0), 0);
        EDGES.still("leaves: 1", x -> x.leaves(0, 2, 1), 1);
        EDGES.still("leaves: 99999, up", x -> x.leaves(0, 2, 99999), 93100);
        EDGES.still("leaves: 99999, down", x -> x.leaves(2, 0, 99999), 93100);
        EDGES.still("leaves: 99999 over one", x -> x.leaves(0, 1, 99999), 95000);
        EDGES.still("leaves: 99999 over none", x -> x.leaves(2, 2, 99999), 99999);
        EDGES.refusesOutside("leaves: n", 0, 99999, (x, n) -> x.leaves(0, 2, n), NONE);
        row("leaves: from", (x, hub) -> x.leaves(hub, 1, 1000), NONE, 0, 950, 1000, 980);
        row("leaves: to", (x, hub) -> x.leaves(1, hub, 1000), NONE, 0, 950, 1000, 980);
        EDGES.refuses("leaves: no hub, n 0", (x, hub) -> x.leaves(hub, hub, 0), NONE, -1, 3);
    }

    private static void needsBounds() {
        EDGES.start(Pipes::rich);
        EDGES.still("needs: 0", x -> x.needs(0, 2, 0), 0);
        EDGES.still("needs: 1", x -> x.needs(0, 2, 1), 1);
        EDGES.still("needs: 19", x -> x.needs(0, 1, 19), 19);
        EDGES.still("needs: 20", x -> x.needs(0, 1, 20), 21);
        EDGES.still("needs: 99999 over none", x -> x.needs(1, 1, 99999), 99999);
        EDGES.refusesOutside("needs: much", 0, 99999, (x, much) -> x.needs(1, 1, much), NONE);
        EDGES.refusesOutside("needs: much over two", 0, 99999, (x, much) -> x.needs(0, 2, much), NONE);
        row("needs: from", (x, hub) -> x.needs(hub, 1, 100), NONE, 0, 105, 100, 102);
        row("needs: to", (x, hub) -> x.needs(1, hub, 100), NONE, 0, 105, 100, 102);
    }

    private static void needsNoneSo() {
        EDGES.start(Pipes::rich);
        EDGES.still("needs: 99999 is enough", x -> x.needs(0, 1, 95000), 99999);
        EDGES.still("needs: 99999 is not enough", x -> x.needs(0, 1, 95001), REFUSED);
        EDGES.still("needs: 99998 is enough", x -> x.needs(0, 2, 93100), 99998);
        EDGES.still("needs: over two", x -> x.needs(0, 2, 93101), REFUSED);
        EDGES.still("needs: the most", x -> x.needs(0, 1, 99999), REFUSED);
        EDGES.still("needs: NONE ahead of -2, hub", x -> x.needs(-1, 1, 99999), NONE);
        EDGES.still("needs: NONE ahead of -2, other", x -> x.needs(0, 3, 99999), NONE);
        EDGES.still("needs: NONE ahead of -2, much", x -> x.needs(0, 1, 100000), NONE);
        GasNominations x = Pipes.rich();
        for (int much = 0; much <= 60; much++) {
            int n = x.needs(0, 2, much);
            due("needs: it is enough for " + much, Math.max(x.leaves(0, 2, n), much), x.leaves(0, 2, n));
            if (n > 0) {
                due("needs: one less is not, for " + much, Math.min(x.leaves(0, 2, n - 1), much - 1), x.leaves(0, 2, n - 1));
            }
        }
    }

    // ---- promises 30 to 32

    private static void moreBounds() {
        EDGES.start(Pipes::rich);
        EDGES.still("more: n 1, parked", x -> x.more(1, 1, NONE, 1), 1);
        EDGES.still("more: n 9999, parked", x -> x.more(1, 1, NONE, 9999), 50);
        EDGES.still("more: n 1, all is taken", x -> x.more(1, 0, 2, 1), 0);
        // of 150 at the IN point 148, of 50 on the segment 49
        EDGES.still("more: n 9999", x -> x.more(1, 0, 2, 9999), 49);
        EDGES.refusesOutside("more: n", 1, 9999, (x, n) -> x.more(1, 0, 2, n), NONE);
        EDGES.refusesOutside("more: n, parked", 1, 9999, (x, n) -> x.more(1, 1, NONE, n), NONE);
        row("more: shipper", (x, k) -> x.more(k, NONE, 2, 5), NONE, 0, 5, 5);
        row("more: parked from", (x, p) -> x.more(1, p, NONE, 5), NONE, 0, 5, 5);
        row("more: a loan to", (x, p) -> x.more(0, NONE, p, 5), NONE, 2, 5, 0);
        EDGES.still("more: from the first", x -> x.more(0, 0, 2, 5), 0);
        EDGES.still("more: from the last", x -> x.more(0, 1, 2, 5), 5);
    }

    private static void moreSixteen() {
        EDGES.start(Pipes::rich);
        EDGES.refuses("more: from", (x, p) -> x.more(0, p, 2, 5), NONE, 2, 3, 4, -2);
        EDGES.refuses("more: to", (x, p) -> x.more(0, 0, p, 5), NONE, 0, 1, 4, -2);
        EDGES.still("more: one at least", x -> x.more(0, NONE, NONE, 5), NONE);
        EDGES.start(Pipes::nearlyFull);
        EDGES.still("more: the 16th", x -> x.more(0, NONE, 1, 9999), 9999);
        EDGES.start(Pipes::full);
        EDGES.still("more: the 17th", x -> x.more(0, NONE, 1, 9999), REFUSED);
        EDGES.still("more: the 17th", x -> x.more(0, 0, 1, 1), REFUSED);
        EDGES.refuses("more: NONE ahead of -2, n", (x, n) -> x.more(0, 0, 1, n), NONE, 0, 10000);
        EDGES.refuses("more: NONE ahead of -2, shipper", (x, k) -> x.more(k, 0, 1, 1), NONE, -1, 6);
        EDGES.refuses("more: NONE ahead of -2, from", (x, p) -> x.more(0, p, 1, 1), NONE, -2, 1, 10);
        EDGES.refuses("more: NONE ahead of -2, to", (x, p) -> x.more(0, 0, p, 1), NONE, -2, 0, 10);
        EDGES.still("more: NONE ahead of -2, one at least", x -> x.more(0, NONE, NONE, 1), NONE);
    }

    private static void gainBounds() {
        EDGES.start(Pipes::rich);
        row("gain:", (x, k) -> x.gain(k), NONE, 0, 100020, 100000, 100000, 100000);
        EDGES.start(Pipes::full);
        EDGES.still("gain: no 17th", x -> x.gain(16), NONE);
        GasNominations x = Texts.told("hubs 2;in 0 9999;out 0 9999;shipper 0 1 0 0;nom 0 0 1 9999");
        due("gain: the only one", x.gain(0), 100000);
        x.nominate(0, 0, 1, 9999);
        due("gain: half of it", x.gain(0), 100000 + 9999 - 4999);
        due("gain: the other half", x.gain(1), 100000 + 9999 - 5000);
        GasNominations y = Texts.told("hubs 2;in 0 0;out 0 9;shipper 0 1 0 0;nom 0 0 1 9;nom 0 0 1 0");
        due("gain: nothing", y.gain(0), 100000);
        due("gain: of 0", y.gain(1), 100000);
        // FIRM passes on to the second one, which is cut elsewhere, and the third loses what it takes on the way
        GasNominations z = Texts.told("hubs 3;segment 0 10 0;segment 1 10 0;in 0 99;out 0 99;in 1 99;out 1 99;"
            + "out 2 99;shipper 10 9 0 0;shipper 0 1 0 0;nom 0 0 1 10;nom 0 0 4 10;nom 1 0 3 10;nom 1 2 4 10");
        due("gain: below 0", z.gain(0), 100000 - 10);
    }

    private static void widenBounds() {
        EDGES.start(Pipes::rich);
        EDGES.still("widen: a point to 0", x -> x.widen(0, 0, 0), 100000 - 100);
        EDGES.still("widen: a point to 9999", x -> x.widen(0, 0, 9999), 100000);
        EDGES.still("widen: a segment to 0", x -> x.widen(1, 0, 0), 100000 - 100);
        EDGES.still("widen: a segment to 9999", x -> x.widen(1, 0, 9999), 100000 + 20);
        EDGES.still("widen: a segment by 1", x -> x.widen(1, 0, 101), 100001);
        EDGES.still("widen: a segment by 1 less", x -> x.widen(1, 0, 99), 99999);
        EDGES.still("widen: as it is", x -> x.widen(1, 0, 100), 100000);
        EDGES.refusesOutside("widen: cap of a point", 0, 9999, (x, cap) -> x.widen(0, 0, cap), NONE);
        EDGES.refusesOutside("widen: cap of a segment", 0, 9999, (x, cap) -> x.widen(1, 0, cap), NONE);
        row("widen: point", (x, k) -> x.widen(0, k, 5), NONE, 0, 100000 - 95, 100000, 100000 - 45, 100000 - 45 - 10 + 20);
        row("widen: segment", (x, k) -> x.widen(1, k, 5), NONE, 0, 100000 - 95, 100000 - 45 + 20);
        EDGES.refusesOutside("widen: sort", 0, 1, (x, sort) -> x.widen(sort, 0, 5), NONE);
        EDGES.start(() -> Texts.told("hubs 2"));
        EDGES.still("widen: no point", x -> x.widen(0, 0, 5), NONE);
        EDGES.still("widen: the only segment", x -> x.widen(1, 0, 5), 100000);
    }

    /** What one question tries is gone when the next one is asked. */
    private static long ask(GasNominations x, int which) {
        switch (which) {
            case 0:
                return x.more(1, 1, 2, 30);
            case 1:
                return x.gain(0);
            case 2:
                return x.widen(1, 0, 130);
            case 3:
                return x.widen(0, 3, 0);
            case 4:
                return x.ahead(1, 9);
            case 5:
                return x.first(0);
            case 6:
                return x.fair(0);
            case 7:
                return x.alone(1);
            case 8:
                return x.plan(0, 0);
            default:
                return x.cause(0);
        }
    }

    private static void questionsByThemselves() {
        // lent 40 in four days of 51, then five of 53
        long[] want = {26, 100020, 100020, 100000 - 60 + 20, 4 * 51 + 5 * 53, 2, 47, 70, 50, 200};
        for (int one = 0; one < want.length; one++) {
            for (int other = 0; other < want.length; other++) {
                GasNominations x = Pipes.swung();
                ask(x, one);
                due("question " + other + " behind " + one, ask(x, other), want[other]);
                x.renominate(0, 0);
                x.undo();
                due("question " + other + " behind undo()", ask(x, other), want[other]);
            }
        }
    }

    // ---- promises 33 to 36

    private static void aheadBounds() {
        EDGES.start(Pipes::rich);
        EDGES.still("ahead: 0", x -> x.ahead(0, 0), -10);
        EDGES.still("ahead: 1", x -> x.ahead(0, 1), -17);
        EDGES.still("ahead: 99", x -> x.ahead(0, 99), -10 - 99 * 7);
        EDGES.refusesOutside("ahead: n", 0, 99, (x, n) -> x.ahead(0, n), NO);
        row("ahead: shipper, 0", (x, k) -> x.ahead(k, 0), NO, 0, -10, 51);
        // 30 more can be lent: three days of 51, then 53 a day
        row("ahead: shipper, 4", (x, k) -> x.ahead(k, 4), NO, 0, -38, 257);
        GasNominations x = Texts.told("hubs 2" + ";in 0 9999;out 0 9999".repeat(5) + ";shipper 0 1 0 0");
        for (int i = 0; i < 10; i += 2) {
            x.nominate(0, i, i + 1, 9999);
            x.swing(i, -99);
            x.swing(i + 1, 99);
        }
        due("ahead: no bounds of balances", x.ahead(0, 99), -99 * 98995);
        due("ahead: beyond the first time", x.ahead(0, 11), -11 * 98995);
        GasNominations y = Texts.told("hubs 2;in 0 9;out 0 9;shipper 0 1 0 0;nom 0 0 1 9");
        y.swing(0, 99);
        days(y, 999);
        due("ahead: no bounds of days (only seen beyond the 512th call)", y.ahead(0, 99), (999 + 99) * 8);
        due("first: no bounds of days", y.first(0), 0);
    }

    /** One a day is parked, or lent, and lost, or won, by the swing, till the LIMIT is reached. */
    private static void aheadTillTheLimit() {
        GasNominations x = Texts.told("hubs 2;in 0 9;out 0 9;shipper 0 1 2 3;shipper 0 1 3 3;park 0 0 1;loan 1 1 1");
        x.swing(0, -1);
        x.swing(1, -1);
        for (int n = 0; n <= 3; n++) {
            due("ahead: parked, " + n, x.ahead(0, n), -n);
            due("ahead: lent, " + n, x.ahead(1, n), n);
        }
        due("ahead: the LIMIT, parked", x.ahead(0, 4), -3);
        due("ahead: the LIMIT, lent", x.ahead(1, 4), 3);
        due("ahead: the LIMIT, 99", x.ahead(0, 99), -3);
        due("first: ahead of the LIMIT", x.first(0), 3);
        due("first: never, for the LIMIT", x.first(1), REFUSED);
    }

    private static GasNominations tolerant(int shipper, int tolerance) {
        GasNominations x = Pipes.rich();
        x.contract(shipper, 2, tolerance);
        return x;
    }

    private static void firstBounds() {
        EDGES.start(Pipes::rich);
        row("first:", (x, k) -> x.first(k), NONE, 0, 1, 0);
        EDGES.start(() -> tolerant(0, 10 + 98 * 7));
        EDGES.still("first: 99", x -> x.first(0), 99);
        EDGES.start(() -> tolerant(0, 10 + 98 * 7 - 1));
        EDGES.still("first: 98", x -> x.first(0), 98);
        EDGES.start(() -> tolerant(0, 10 + 99 * 7 - 1));
        EDGES.still("first: 99, by 1", x -> x.first(0), 99);
        EDGES.start(() -> tolerant(0, 10 + 99 * 7));
        EDGES.still("first: behind none of these", x -> x.first(0), REFUSED);
        EDGES.start(() -> Texts.told("hubs 2;shipper 0 1 0 0"));
        EDGES.still("first: 0 is within TOLERANCE 0", x -> x.first(0), REFUSED);
        EDGES.start(() -> Texts.told("hubs 2"));
        EDGES.still("first: no shipper", x -> x.first(0), NONE);
    }

    /** Behind 0, 1, 2 .. days the first has -10, -17, -24, the second 51, 102, 153, 204, 257. */
    private static void firstEitherWay() {
        due("first: at TOLERANCE below 0", tolerant(0, 17).first(0), 2);
        due("first: beyond it by 1, below 0", tolerant(0, 16).first(0), 1);
        due("first: beyond it now, below 0", tolerant(0, 9).first(0), 0);
        due("first: at TOLERANCE above 0", tolerant(1, 51).first(1), 1);
        due("first: beyond it by 1, above 0", tolerant(1, 50).first(1), 0);
        due("first: at TOLERANCE later", tolerant(1, 204).first(1), 4);
        due("first: beyond it later", tolerant(1, 203).first(1), 3);
        due("first: TOLERANCE 0", tolerant(1, 0).first(1), 0);
    }

    private static void logBounds() {
        EDGES.start(Pipes::plain);
        EDGES.refuses("log: no day yet", (x, i) -> x.log(i, 0), NO, 0, -1, 7, 8);
        EDGES.start(Pipes::rich);
        row("log: one day", (x, i) -> x.log(i, 0), NO, 0, -10);
        row("log: shipper", (x, k) -> x.log(0, k), NO, 0, -10, 51);
        EDGES.start(() -> days(Pipes.swung(), 7));
        row("log: seven days", (x, i) -> x.log(i, 0), NO, 0, -52, -45, -38, -31, -24, -17, -10);
        EDGES.start(() -> days(Pipes.swung(), 8));
        row("log: eight days", (x, i) -> x.log(i, 0), NO, 0, -59, -52, -45, -38, -31, -24, -17, -10);
        EDGES.start(() -> days(Pipes.swung(), 9));
        row("log: of nine days eight", (x, i) -> x.log(i, 0), NO, 0, -66, -59, -52, -45, -38, -31, -24, -17);
        GasNominations x = Pipes.rich();
        x.trade(1, 0, 10);
        x.contract(1, 2, 0);
        x.close();
        due("log: as it was then", x.log(0, 0), -10);
        due("log: as it was then", x.log(0, 1), 51);
        due("log: only days count", x.log(1, 1), NO);
        x.day();
        due("log: from what it was", x.log(0, 0), -7);
        due("log: the day before", x.log(1, 0), -10);
    }

    private static void fairBounds() {
        EDGES.start(Pipes::rich);
        row("fair:", (x, k) -> x.fair(k), NONE, 0, 47, 53, 0, 10);
        EDGES.start(Pipes::full);
        EDGES.still("fair: no 17th", x -> x.fair(16), NONE);
        GasNominations x = Texts.told("hubs 2;in 0 10;out 0 99;shipper 9999 1 0 0;shipper 0 9 0 0;nom 0 0 1 9;nom 1 0 1 1");
        due("fair: just fits", x.fair(1), 1);
        x.renominate(0, 10);
        due("fair: neither FIRM nor RANK", x.fair(0), 10);
        due("fair: neither FIRM nor RANK", x.fair(1), 0);
        x.renominate(1, 10);
        due("fair: halves", x.fair(1), 5);
        due("fair: not as it is", x.plan(1, 0), 0);
    }

    // ---- promises 37 to 41

    private static void nearestBounds() {
        EDGES.start(Pipes::rich);
        row("nearest: of an OUT point, which", (x, p) -> x.nearest(p, 48, 0), NONE, 2, 1, 1);
        row("nearest: of an OUT point, n", (x, p) -> x.nearest(p, 48, 1), NONE, 2, 48, 48);
        EDGES.refuses("nearest: no OUT point", (x, p) -> x.nearest(p, 48, 0), NONE, 0, 1, -1, 4);
        EDGES.still("nearest: 0", x -> x.nearest(3, 0, 1), 0);
        EDGES.still("nearest: 0, which", x -> x.nearest(3, 0, 0), 0);
        EDGES.still("nearest: 9999", x -> x.nearest(2, 9999, 1), 10203);
        EDGES.still("nearest: 9999, which", x -> x.nearest(2, 9999, 0), 1);
        EDGES.refusesOutside("nearest: much", 0, 9999, (x, much) -> x.nearest(3, much, 1), NONE);
        row("nearest: what", (x, what) -> x.nearest(2, 95, what), NONE, 0, 1, 96);
        EDGES.start(() -> Texts.told("hubs 2;out 0 1"));
        EDGES.refuses("nearest: no IN point", (x, what) -> x.nearest(0, 1, what), REFUSED, 0, 1);
        EDGES.refuses("nearest: NONE ahead of -2, what", (x, what) -> x.nearest(0, 1, what), NONE, -1, 2);
        EDGES.refuses("nearest: NONE ahead of -2, much", (x, much) -> x.nearest(0, much, 0), NONE, -1, 10000);
        EDGES.refuses("nearest: NONE ahead of -2, point", (x, p) -> x.nearest(p, 1, 0), NONE, -1, 1);
        EDGES.start(() -> Texts.told("hubs 2;in 0 1"));
        EDGES.still("nearest: no OUT point is there", x -> x.nearest(0, 1, 0), NONE);
    }

    private static void nearestOfSeveral() {
        EDGES.start(Pipes::rich);
        EDGES.still("nearest: of several the least", x -> x.nearest(2, 19, 0), 0);
        EDGES.still("nearest: of several the least, n", x -> x.nearest(2, 19, 1), 19);
        EDGES.still("nearest: one less is enough", x -> x.nearest(2, 20, 0), 1);
        EDGES.still("nearest: one less is enough, n", x -> x.nearest(2, 20, 1), 20);
        // a CAP does not matter, and the farthest way is still within 99999
        StringBuilder text = new StringBuilder("hubs 8");
        for (int i = 0; i < 7; i++) {
            text.append(";segment ").append(i).append(" 0 50");
        }
        GasNominations x = Texts.told(text + ";out 0 0;in 7 0;in 7 0;in 6 0");
        due("nearest: six segments", x.nearest(0, 9999, 0), 3);
        x.move(3, 7);
        due("nearest: seven segments, the least of three", x.nearest(0, 9999, 0), 1);
        int n = x.nearest(0, 9999, 1);
        due("nearest: it is enough", x.leaves(7, 0, n), 9999);
        due("nearest: one less is not", x.leaves(7, 0, n - 1), 9998);
    }

    private static void orderBounds() {
        EDGES.start(Pipes::rich);
        row("order:", (x, k) -> x.order(k), NONE, 0, 1, 0);
        EDGES.start(() -> Texts.told("hubs 2;shipper 0 9 0 0;shipper 0 1 0 0;shipper 0 9 0 0;shipper 0 2 0 0;"
            + "shipper 0 1 0 0;shipper 0 8 0 0"));
        row("order: of six", (x, k) -> x.order(k), NONE, 0, 1, 4, 3, 5, 0, 2);
        EDGES.start(() -> Texts.told("hubs 2" + ";shipper 0 9 0 0".repeat(6)));
        row("order: by numbers", (x, k) -> x.order(k), NONE, 0, 0, 1, 2, 3, 4, 5);
        EDGES.start(() -> Texts.told("hubs 2"));
        EDGES.refuses("order: none", (x, k) -> x.order(k), NONE, 0, -1, FAR);
    }

    private static void blameBounds() {
        EDGES.start(Pipes::rich);
        EDGES.still("blame: a segment up", x -> x.blame(200), 3);
        EDGES.still("blame: a limit", x -> x.blame(500), 4);
        EDGES.still("blame: nothing is cut", x -> x.blame(-2), 8);
        EDGES.refuses("blame: nobody's", (x, stop) -> x.blame(stop), 0, NONE, 0, 99, 100, 101, 199, 201, 299, 300, 301,
            400, 499, 501, FAR, Integer.MIN_VALUE);
        GasNominations x = Pipes.full();
        int all = 0;
        for (int stop : new int[] {100, 200, 300, 301, 400, 500, -2}) {
            due("blame: each once", all & x.blame(stop), 0);
            all |= x.blame(stop);
        }
        due("blame: all of sixteen", all, (1 << 16) - 1);
    }

    private static void aloneBounds() {
        EDGES.start(Pipes::rich);
        row("alone:", (x, k) -> x.alone(k), NONE, 0, 60, 70, 0, 10);
        EDGES.start(Pipes::full);
        EDGES.still("alone: the 16th", x -> x.alone(15), 9999);
        EDGES.still("alone: no 17th", x -> x.alone(16), NONE);
        GasNominations x = Texts.told("hubs 2;in 0 10;out 0 9;shipper 4 5 0 0;shipper 0 1 0 0;nom 1 0 1 9;nom 0 0 1 9");
        due("alone: FIRM and the rest, just fits", x.alone(1), 9);
        x.renominate(1, 10);
        due("alone: one is cut", x.alone(1), 9);
        x.renominate(1, 0);
        due("alone: of 0", x.alone(1), 0);
    }

    private static void worstBounds() {
        EDGES.start(Pipes::rich);
        EDGES.still("worst", x -> x.worst(), 0);
        EDGES.start(() -> Texts.told("hubs 2"));
        EDGES.still("worst: no shipper", x -> x.worst(), REFUSED);
        EDGES.start(() -> Texts.told("hubs 2;in 0 9;shipper 0 1 0 0;shipper 0 1 0 0;park 1 0 0"));
        EDGES.still("worst: nothing but 0 is nominated", x -> x.worst(), REFUSED);
        GasNominations x = Texts.told("hubs 2;in 0 9;out 0 9999;shipper 0 1 0 0;shipper 0 1 0 0;shipper 0 1 0 0;"
            + "nom 1 0 1 1;nom 2 0 1 1");
        due("worst: all get all, of several the least", x.worst(), 1);
        x.nominate(0, 0, 1, 1);
        due("worst: of several the least", x.worst(), 0);
        x.nominate(2, NONE, 1, 1);
        due("worst: half", x.worst(), 2);
        x.nominate(0, NONE, 1, 1);
        due("worst: half each, the least", x.worst(), 0);
        x.nominate(2, NONE, 1, 1);
        due("worst: a third", x.worst(), 2);
        x.nominate(1, NONE, 1, 5000);
        due("worst: hardly any", x.worst(), 1);
    }

    // ---- promise 42

    private static void netBounds() {
        EDGES.start(Pipes::rich);
        row("net: the first, what", (x, what) -> x.net(0, what), NONE, 0, 1, 0, 10);
        EDGES.still("net: how many", x -> x.net(NONE, 0), 1);
        EDGES.still("net: how much", x -> x.net(NONE, 2), 10);
        EDGES.refuses("net: of all, what", (x, what) -> x.net(NONE, what), NONE, 1, 3, -1);
        EDGES.refuses("net: not so many", (x, k) -> x.net(k, 0), REFUSED, 1, 2, FAR);
        EDGES.refuses("net: not so many", (x, what) -> x.net(1, what), REFUSED, 0, 1, 2);
        EDGES.refuses("net: NONE ahead of -2", (x, what) -> x.net(1, what), NONE, -1, 3);
        EDGES.refuses("net: below NONE", (x, k) -> x.net(k, 0), NONE, -2, Integer.MIN_VALUE);
        EDGES.start(Pipes::plain);
        EDGES.still("net: none", x -> x.net(NONE, 0), 0);
        EDGES.still("net: none, how much", x -> x.net(NONE, 2), 0);
        EDGES.still("net: none, the first", x -> x.net(0, 0), REFUSED);
        EDGES.start(() -> Texts.told("hubs 2"));
        EDGES.still("net: no shipper", x -> x.net(NONE, 0), 0);
    }

    /** A day brings each shipper half of n more or less. */
    private static GasNominations balances(int... halves) {
        GasNominations x = Texts.told("hubs 2;in 0 9999;in 0 9999;out 0 9999" + ";shipper 0 1 0 0".repeat(halves.length));
        x.swing(0, 50);
        x.swing(1, -50);
        for (int i = 0; i < halves.length; i++) {
            if (halves[i] != 0) {
                x.nominate(i, halves[i] > 0 ? 0 : 1, 2, 2 * Math.abs(halves[i]));
            }
        }
        x.day();
        return x;
    }

    private static void trades(String what, GasNominations x, int[][] want) {
        due(what + ": how many", x.net(NONE, 0), want.length);
        int sum = 0;
        for (int k = 0; k < want.length; k++) {
            for (int part = 0; part < 3; part++) {
                due(what + ": " + k + ", " + part, x.net(k, part), want[k][part]);
            }
            sum += want[k][2];
        }
        due(what + ": how much together", x.net(NONE, 2), sum);
        due(what + ": no more", x.net(want.length, 0), REFUSED);
    }

    private static void netFiveTrades() {
        trades("net: one gives five", balances(5, -1, -1, -1, -1, -1),
            new int[][] {{0, 1, 1}, {0, 2, 1}, {0, 3, 1}, {0, 4, 1}, {0, 5, 1}});
        trades("net: five give one", balances(1, 1, 1, 1, 1, -5),
            new int[][] {{0, 5, 1}, {1, 5, 1}, {2, 5, 1}, {3, 5, 1}, {4, 5, 1}});
        trades("net: in turns", balances(-3, 5, -4, 5, -4, 1),
            new int[][] {{1, 0, 3}, {1, 2, 2}, {3, 2, 2}, {3, 4, 3}, {5, 4, 1}});
        trades("net: as much as fits both", balances(4, -4, 3, -3), new int[][] {{0, 1, 4}, {2, 3, 3}});
    }

    private static void netEitherSide() {
        trades("net: none below 0", balances(1, 0, 2), new int[][] {});
        trades("net: none above 0", balances(-1, 0, -2), new int[][] {});
        trades("net: all 0", balances(0, 0), new int[][] {});
        trades("net: till none is below 0", balances(9, -1, 9), new int[][] {{0, 1, 1}});
        trades("net: till none is above 0", balances(-9, 1, -9), new int[][] {{1, 0, 1}});
        trades("net: more than one trade() could", Pipes.large(), new int[][] {{0, 1, 19798}});
        trades("net: one shipper", balances(7), new int[][] {});
    }

    /** Shippers of an earlier pipe have no BALANCE any more. */
    private static void netOfFewer() {
        GasNominations x = balances(5, 0, 7);
        due("net: three shippers", x.net(NONE, 0), 0);
        Texts.tell(x, "hubs 2;in 0 9;out 0 9;shipper 0 1 0 0;nom 0 0 1 9");
        x.swing(0, -99);
        x.day();
        due("net: one shipper", x.shipper(0, 4), -9);
        trades("net: one shipper", x, new int[][] {});
    }

    // ---- promises 43 to 48

    private static void cashBounds() {
        EDGES.start(Pipes::rich);
        row("cash: above 0, what", (x, what) -> x.cash(1, what), NO, 0, 46, -124);
        row("cash: at TOLERANCE, what", (x, what) -> x.cash(0, what), NO, 0, 0, 0);
        row("cash: of", (x, k) -> x.cash(k, 0), NO, 0, 0, 46);
        EDGES.start(() -> tolerant(0, 9));
        row("cash: 1 below 0, what", (x, what) -> x.cash(0, what), NO, 0, -1, 3);
        EDGES.start(() -> tolerant(0, 0));
        row("cash: 10 below 0, what", (x, what) -> x.cash(0, what), NO, 0, -10, 33);
        EDGES.start(() -> tolerant(1, 51));
        row("cash: at TOLERANCE above 0, what", (x, what) -> x.cash(1, what), NO, 0, 0, 0);
        EDGES.start(() -> tolerant(1, 50));
        row("cash: 1 above 0, what", (x, what) -> x.cash(1, what), NO, 0, 1, -2);
        EDGES.start(() -> Texts.told("hubs 2;shipper 0 1 0 0;price 999 100"));
        row("cash: 0 with TOLERANCE 0, what", (x, what) -> x.cash(0, what), NO, 0, 0, 0);
    }

    private static void partBounds() {
        EDGES.start(Pipes::rich);
        row("part:", (x, k) -> x.part(k), NONE, NONE, 611, 500, 750);
        EDGES.start(() -> Texts.told("hubs 2"));
        row("part: nothing is nominated", (x, k) -> x.part(k), NONE, NONE, 1000);
        EDGES.start(() -> Texts.told("hubs 2;in 0 0;shipper 0 1 0 0;shipper 0 1 0 0;park 1 0 0"));
        row("part: nothing but 0", (x, k) -> x.part(k), NONE, NONE, 1000, 1000, 1000);
    }

    private static void partDownwards() {
        GasNominations x = Texts.told("hubs 2;in 0 9998;out 0 9999;shipper 0 1 0 0;nom 0 0 1 9999");
        due("part: all but one", x.part(0), 999);
        x.limit(0, 0, 9999);
        due("part: all", x.part(0), 1000);
        x.limit(0, 0, 10);
        due("part: a thousandth", x.part(0), 1);
        x.limit(0, 0, 9);
        due("part: less than a thousandth", x.part(0), 0);
        x.limit(0, 0, 0);
        due("part: nothing", x.part(NONE), 0);
        x.renominate(0, 1);
        due("part: nothing of 1", x.part(0), 0);
        x.limit(0, 0, 1);
        due("part: 1 of 1", x.part(0), 1000);
        GasNominations y = Texts.told("hubs 2;in 0 9999;out 0 9999;shipper 0 1 0 0");
        for (int i = 0; i < 16; i++) {
            y.nominate(0, 0, 1, 9999);
        }
        due("part: a sixteenth", y.part(NONE), 62);
    }

    private static void totalBounds() {
        EDGES.start(Pipes::rich);
        row("total: what", (x, what) -> x.total(what), NONE, 0, 137, 72, 4, 0, 61);
        EDGES.start(Pipes::plain);
        row("total: no day yet, what", (x, what) -> x.total(what), NONE, 0, 0, 0, 0, 0, 0);
        EDGES.start(() -> Texts.told("hubs 2"));
        row("total: a bare pipe, what", (x, what) -> x.total(what), NONE, 0, 0, 0, 0, 0, 0);
        GasNominations x = balances(-7);
        due("total: the books below 0", x.total(4), -7);
        x.close();
        due("total: came in", x.total(3), -7);
        due("total: the books", x.total(4), 0);
        GasNominations y = balances(7);
        y.close();
        due("total: went out", y.total(3), 7);
        GasNominations z = Pipes.large();
        due("total: received is all", z.total(0), z.total(1) + z.total(2) + z.total(3) + z.total(4));
        z.store(1, 1);
        z.lend(0, 1, 9);
        z.trade(0, 1, 99);
        due("total: neither lend() nor trade() changes the books", z.total(4), 9999);
    }

    private static void priceBounds() {
        EDGES.start(Pipes::rich);
        row("price: what", (x, what) -> x.price(what), NONE, 0, 3, 10);
        EDGES.start(Pipes::full);
        row("price: the most, what", (x, what) -> x.price(what), NONE, 0, 999, 100);
        EDGES.start(() -> Texts.told("hubs 2"));
        row("price: without, what", (x, what) -> x.price(what), NONE, 0, 0, 0);
    }

    private static void letterBounds() {
        int length = Pipes.TEXT.length();
        EDGES.start(Pipes::rich);
        EDGES.still("letter: how many", x -> x.letter(NONE), length);
        EDGES.still("letter: the first", x -> x.letter(0), 'h');
        EDGES.still("letter: the last", x -> x.letter(length - 1), '0');
        EDGES.refuses("letter: not so many", (x, k) -> x.letter(k), REFUSED, length, length + 1, FAR);
        EDGES.refuses("letter: below NONE", (x, k) -> x.letter(k), NONE, -2, -3, Integer.MIN_VALUE);
        EDGES.start(() -> Texts.told("hubs 2"));
        EDGES.still("letter: of a bare pipe", x -> x.letter(NONE), "hubs 2;segment 0 9999 0;price 0 0".length());
        EDGES.refuses("letter: behind a bare pipe", (x, k) -> x.letter(k), REFUSED, 33, 34);
    }

    private static void isLetter(String what, GasNominations x, String want) {
        String got = Texts.letter(x);
        CHECK.isTrue("letter: " + what + ": " + got, got.equals(want));
    }

    private static void letterOfAll() {
        isLetter("a bare pipe", Texts.told("hubs 2"), "hubs 2;segment 0 9999 0;price 0 0");
        isLetter("no swings, balances, parked ones, days", Pipes.rich(), Pipes.TEXT);
        isLetter("those of 0, too", Texts.told("hubs 2;in 0 0;out 1 0;shipper 0 1 0 0;nom 0 0 1 0;park 0 0 0;loan 0 1 0"),
            "hubs 2;segment 0 9999 0;in 0 0;out 1 0;shipper 0 1 0 0;nom 0 0 1 0;park 0 0 0;loan 0 1 0;price 0 0");
        String again = "hubs 2;segment 0 0 50;in 0 9999;out 1 9999;shipper 9999 9 9999 9999;nom 0 0 1 9999;price 999 100";
        isLetter("told again", Texts.told(again), again);
        GasNominations x = Pipes.rich();
        x.withdraw(0);
        x.nominate(1, 1, 3, 9999);
        isLetter("nominations by numbers", x, Pipes.TEXT.replace("nom 0 0 3 60;", "")
            .replace("loan 1 3 10", "loan 1 3 10;nom 1 1 3 9999"));
        x.undo();
        x.undo();
        isLetter("undone", x, Pipes.TEXT);
    }

    private static void countBounds() {
        EDGES.start(Pipes::rich);
        row("count: what", (x, what) -> x.count(what), NONE, 0, 3, 4, 2, 4, 1, 5, 21, 2);
        EDGES.start(Pipes::full);
        row("count: of all there can be, what", (x, what) -> x.count(what), NONE, 0, 8, 10, 6, 16, 0, 10, 0, 0);
        EDGES.start(GasNominations::new);
        row("count: of nothing, what", (x, what) -> x.count(what), NONE, 0, 0, 0, 0, 0, 0, 0, 0, 0);
        GasNominations x = new GasNominations();
        x.keep(0);
        due("count: shelf 0", x.count(7), 1);
        x.keep(1);
        due("count: both shelves", x.count(7), 3);
        x.back(0);
        x.back(1);
        due("count: they stay", x.count(7), 3);
    }
}
