/** The edges of promises 5 to 19: each act's least and largest numbers, its refusals and which is ahead, undo, shelves. */
public final class ActEdgesTest {
    private static final int NONE = GasNominations.NONE;
    private static final int REFUSED = -2;
    private static final int BEYOND = -3;
    private static final int NO = -2000000000;

    private static final Check CHECK = new Check("edges of acts");
    private static final Edges EDGES = new Edges(CHECK);

    private ActEdgesTest() {
    }

    public static void main(String[] args) {
        nominateBounds();
        nominatePoints();
        nominateSixteen();
        renominateBounds();
        withdrawBounds();
        limitBounds();
        limitSo();
        swingBounds();
        contractBounds();
        contractSo();
        contractBelowParked();
        tradeBounds();
        tradeFits();
        moveBounds();
        lendBounds();
        lendFits();
        storeBounds();
        storeFits();
        dayWithoutAnything();
        dayAboveBound();
        dayBelowBound();
        dayBoundOfTheEnd();
        dayBoundOfEachShipper();
        day999();
        closeBounds();
        closeOwes();
        closeOwesBeyondInt();
        undoTenAtMost();
        undoRing();
        undoOnlyActs();
        undoEachAct();
        undoOfTheLastRows();
        keepBounds();
        backBounds();
        backLeaves();
        CHECK.finish();
    }

    private static void due(String what, long got, long want) {
        CHECK.due(what, got, want);
    }

    // ---- promise 5

    private static void nominateBounds() {
        EDGES.start(Pipes::rich);
        EDGES.bounds("nominate: shipper", 0, 1, (x, k) -> x.nominate(k, 0, 2, 5), 4, NONE);
        EDGES.bounds("nominate: n", 1, 9999, (x, n) -> x.nominate(1, 0, 2, n), 4, NONE);
        EDGES.bounds("nominate: n, parked", 1, 9999, (x, n) -> x.nominate(1, 1, NONE, n), 4, NONE);
        EDGES.bounds("nominate: n, a loan", 1, 9999, (x, n) -> x.nominate(1, NONE, 3, n), 4, NONE);
        EDGES.start(() -> Texts.told("hubs 2;in 0 1;out 0 1"));
        EDGES.still("nominate: no shipper is there", x -> x.nominate(0, 0, 1, 1), NONE);
        EDGES.start(() -> Texts.told("hubs 2;shipper 0 1 0 0"));
        EDGES.still("nominate: no point is there", x -> x.nominate(0, 0, NONE, 1), NONE);
        EDGES.start(() -> Texts.told("hubs 2;shipper 0 1 0 0;in 0 0"));
        EDGES.acts("nominate: beyond a cap", x -> x.nominate(0, 0, NONE, 9999), 0);
    }

    /** Of points 0 to 3 the first two are IN. */
    private static void nominatePoints() {
        EDGES.start(Pipes::rich);
        EDGES.bounds("nominate: parked from", 0, 1, (x, p) -> x.nominate(0, p, NONE, 5), 4, NONE);
        EDGES.bounds("nominate: a loan to", 2, 3, (x, p) -> x.nominate(0, NONE, p, 5), 4, NONE);
        EDGES.acts("nominate: from the first", x -> x.nominate(0, 0, 3, 5), 4);
        EDGES.acts("nominate: from the last", x -> x.nominate(0, 1, 3, 5), 4);
        EDGES.acts("nominate: from NONE", x -> x.nominate(0, NONE, 3, 5), 4);
        EDGES.acts("nominate: to NONE", x -> x.nominate(0, 0, NONE, 5), 4);
        EDGES.refuses("nominate: from", (x, p) -> x.nominate(0, p, 3, 5), NONE, 2, 3, 4, -2, Integer.MIN_VALUE, Integer.MAX_VALUE);
        EDGES.refuses("nominate: to", (x, p) -> x.nominate(0, 0, p, 5), NONE, 0, 1, 4, -2, Integer.MIN_VALUE, Integer.MAX_VALUE);
        EDGES.still("nominate: one at least", x -> x.nominate(0, NONE, NONE, 5), NONE);
        GasNominations x = Pipes.rich();
        x.nominate(1, NONE, 3, 9999);
        due("nominate: its shipper", x.nomination(4, 0), 1);
        due("nominate: from NONE", x.nomination(4, 1), NONE);
        due("nominate: to", x.nomination(4, 2), 3);
        due("nominate: n", x.nomination(4, 3), 9999);
    }

    private static void nominateSixteen() {
        EDGES.start(Pipes::nearlyFull);
        EDGES.acts("nominate: the 16th", x -> x.nominate(0, 0, 1, 1), 15);
        EDGES.start(Pipes::full);
        EDGES.still("nominate: the 17th", x -> x.nominate(0, 0, 1, 1), REFUSED);
        EDGES.still("nominate: the 17th, parked", x -> x.nominate(0, 0, NONE, 1), REFUSED);
        EDGES.still("nominate: the 17th, a loan", x -> x.nominate(0, NONE, 1, 9999), REFUSED);
        EDGES.refusesOutside("nominate: NONE ahead, shipper", 0, 5, (x, k) -> x.nominate(k, 0, 1, 1), NONE);
        EDGES.refuses("nominate: NONE ahead, from", (x, p) -> x.nominate(0, p, 1, 1), NONE, 1, 10, -2);
        EDGES.refuses("nominate: NONE ahead, to", (x, p) -> x.nominate(0, 0, p, 1), NONE, 0, 10, -2);
        EDGES.still("nominate: NONE ahead, one at least", x -> x.nominate(0, NONE, NONE, 1), NONE);
        EDGES.refusesOutside("nominate: NONE ahead, n", 1, 9999, (x, n) -> x.nominate(0, 0, 1, n), NONE);
        GasNominations x = Pipes.full();
        x.withdraw(0);
        due("nominate: room again", x.nominate(0, 0, 1, 1), 15);
        due("nominate: and none again", x.nominate(0, 0, 1, 1), REFUSED);
    }

    // ---- promise 6

    private static void renominateBounds() {
        EDGES.start(Pipes::rich);
        EDGES.bounds("renominate: n", 0, 9999, (x, n) -> x.renominate(1, n), 70, NONE);
        EDGES.acts("renominate: the first", x -> x.renominate(0, 1), 60);
        EDGES.acts("renominate: the last", x -> x.renominate(3, 1), 10);
        EDGES.refusesOutside("renominate:", 0, 3, (x, k) -> x.renominate(k, 1), NONE);
        EDGES.still("renominate: so", x -> x.renominate(1, 70), REFUSED);
        EDGES.start(Pipes::full);
        EDGES.still("renominate: 9999 is so", x -> x.renominate(15, 9999), REFUSED);
        EDGES.acts("renominate: the 16th", x -> x.renominate(15, 9998), 9999);
        EDGES.still("renominate: no 17th", x -> x.renominate(16, 1), NONE);
        EDGES.start(() -> Texts.told("hubs 2;in 0 1;shipper 0 1 0 0;park 0 0 0"));
        EDGES.still("renominate: 0 is so", x -> x.renominate(0, 0), REFUSED);
        EDGES.acts("renominate: from 0", x -> x.renominate(0, 1), 0);
    }

    // ---- promise 7

    private static void withdrawBounds() {
        EDGES.start(Pipes::rich);
        EDGES.bounds("withdraw:", 0, 3, (x, k) -> x.withdraw(k), 3, NONE);
        GasNominations x = Pipes.full();
        due("withdraw: the first of 16", x.withdraw(0), 15);
        for (int i = 0; i < 14; i++) {
            due("withdraw: a number less", x.nomination(i, 3), 101 + i);
        }
        due("withdraw: the last has a number less", x.nomination(14, 3), 9999);
        due("withdraw: no 16th", x.nomination(15, 3), REFUSED);
        due("withdraw: no 16th", x.withdraw(15), NONE);
        due("withdraw: the last", x.withdraw(14), 14);
        due("withdraw: those ahead keep theirs", x.nomination(13, 3), 114);
        for (int left = 13; left >= 0; left--) {
            due("withdraw: left", x.withdraw(0), left);
        }
        due("withdraw: none is left", x.withdraw(0), NONE);
        due("withdraw: nothing scheduled", x.day(), 0);
    }

    // ---- promise 8

    private static void limitBounds() {
        EDGES.start(Pipes::rich);
        EDGES.bounds("limit: cap of a point", 0, 9999, (x, n) -> x.limit(0, 1, n), 90, NONE);
        EDGES.bounds("limit: cap of a segment", 0, 9999, (x, n) -> x.limit(1, 1, n), 80, NONE);
        EDGES.acts("limit: the first point", x -> x.limit(0, 0, 5), 200);
        EDGES.acts("limit: the last point", x -> x.limit(0, 3, 5), 60);
        EDGES.refusesOutside("limit: point", 0, 3, (x, k) -> x.limit(0, k, 5), NONE);
        EDGES.acts("limit: the first segment", x -> x.limit(1, 0, 5), 100);
        EDGES.refusesOutside("limit: segment", 0, 1, (x, k) -> x.limit(1, k, 5), NONE);
        EDGES.refusesOutside("limit: sort", 0, 1, (x, sort) -> x.limit(sort, 0, 5), NONE);
        EDGES.start(() -> Texts.told("hubs 2"));
        EDGES.acts("limit: the only segment", x -> x.limit(1, 0, 5), 9999);
        EDGES.still("limit: no point is there", x -> x.limit(0, 0, 5), NONE);
    }

    private static void limitSo() {
        EDGES.start(Pipes::rich);
        EDGES.still("limit: of a point so", x -> x.limit(0, 0, 200), REFUSED);
        EDGES.still("limit: of a segment so", x -> x.limit(1, 0, 100), REFUSED);
        EDGES.start(() -> Texts.told("hubs 2;segment 0 0 0;in 0 9999"));
        EDGES.still("limit: 9999 is so", x -> x.limit(0, 0, 9999), REFUSED);
        EDGES.still("limit: 0 is so", x -> x.limit(1, 0, 0), REFUSED);
    }

    // ---- promise 9

    private static void swingBounds() {
        EDGES.start(Pipes::rich);
        EDGES.bounds("swing: v", -99, 99, (x, v) -> x.swing(1, v), -7, -100);
        EDGES.acts("swing: the first point", x -> x.swing(0, 5), 10);
        EDGES.acts("swing: the last point", x -> x.swing(3, 5), 25);
        EDGES.refusesOutside("swing: point", 0, 3, (x, k) -> x.swing(k, 5), -100);
        EDGES.still("swing: so", x -> x.swing(3, 25), -101);
        EDGES.still("swing: -99 is so", x -> x.swing(2, -99), -101);
        EDGES.acts("swing: from -99", x -> x.swing(2, 99), -99);
        EDGES.acts("swing: to 0", x -> x.swing(2, 0), -99);
        EDGES.still("swing: without these ahead of so", x -> x.swing(4, 0), -100);
        EDGES.start(Pipes::plain);
        EDGES.still("swing: 0 is so", x -> x.swing(0, 0), -101);
        EDGES.start(Pipes::large);
        EDGES.still("swing: 99 is so", x -> x.swing(0, 99), -101);
        EDGES.acts("swing: from 99", x -> x.swing(0, -99), 99);
    }

    // ---- promise 10

    private static void contractBounds() {
        EDGES.start(Pipes::rich);
        EDGES.bounds("contract: FIRM", 0, 9999, (x, n) -> x.contract(0, 0, n), 50, NONE);
        EDGES.bounds("contract: RANK", 1, 9, (x, n) -> x.contract(0, 1, n), 2, NONE);
        EDGES.bounds("contract: TOLERANCE", 0, 9999, (x, n) -> x.contract(0, 2, n), 10, NONE);
        EDGES.acts("contract: LIMIT 9999", x -> x.contract(0, 3, 9999), 30);
        EDGES.refusesOutside("contract: LIMIT", 0, 9999, (x, n) -> x.contract(0, 3, n), NONE);
        EDGES.acts("contract: the last shipper", x -> x.contract(1, 0, 7), 0);
        EDGES.refusesOutside("contract: shipper", 0, 1, (x, k) -> x.contract(k, 0, 7), NONE);
        EDGES.refusesOutside("contract: what", 0, 3, (x, what) -> x.contract(0, what, 7), NONE);
        EDGES.start(Pipes::plain);
        EDGES.bounds("contract: LIMIT, nothing parked", 0, 9999, (x, n) -> x.contract(0, 3, n), 30, NONE);
        EDGES.start(Pipes::full);
        EDGES.acts("contract: the sixth shipper", x -> x.contract(5, 1, 1), 9);
        EDGES.still("contract: no seventh", x -> x.contract(6, 1, 1), NONE);
    }

    private static void contractSo() {
        EDGES.start(Pipes::rich);
        EDGES.still("contract: FIRM so", x -> x.contract(0, 0, 50), REFUSED);
        EDGES.still("contract: RANK so", x -> x.contract(0, 1, 2), REFUSED);
        EDGES.still("contract: TOLERANCE so", x -> x.contract(0, 2, 10), REFUSED);
        EDGES.still("contract: LIMIT so", x -> x.contract(0, 3, 30), REFUSED);
        EDGES.start(Pipes::full);
        EDGES.still("contract: FIRM 9999 so", x -> x.contract(5, 0, 9999), REFUSED);
        EDGES.still("contract: RANK 9 so", x -> x.contract(5, 1, 9), REFUSED);
        EDGES.still("contract: TOLERANCE 9999 so", x -> x.contract(5, 2, 9999), REFUSED);
        EDGES.still("contract: LIMIT 9999 so", x -> x.contract(5, 3, 9999), REFUSED);
        EDGES.still("contract: FIRM 0 so", x -> x.contract(0, 0, 0), REFUSED);
        EDGES.still("contract: RANK 1 so", x -> x.contract(0, 1, 1), REFUSED);
        EDGES.still("contract: TOLERANCE 0 so", x -> x.contract(0, 2, 0), REFUSED);
    }

    /** Parked 30, lent 10. */
    private static void contractBelowParked() {
        EDGES.start(() -> {
            GasNominations x = Pipes.rich();
            x.contract(0, 3, 35);
            return x;
        });
        EDGES.acts("contract: a LIMIT of what is parked", x -> x.contract(0, 3, 30), 35);
        EDGES.refuses("contract: more is parked", (x, n) -> x.contract(0, 3, n), BEYOND, 29, 1, 0);
        EDGES.acts("contract: a LIMIT of what is lent", x -> x.contract(1, 3, 10), 40);
        EDGES.refuses("contract: more is lent", (x, n) -> x.contract(1, 3, n), BEYOND, 9, 1, 0);
        EDGES.still("contract: NONE ahead of -3", x -> x.contract(0, 3, -1), NONE);
        EDGES.acts("contract: FIRM below what is parked", x -> x.contract(0, 0, 29), 50);
        EDGES.acts("contract: RANK below what is parked", x -> x.contract(0, 1, 1), 2);
        EDGES.acts("contract: TOLERANCE below what is parked", x -> x.contract(0, 2, 0), 10);
    }

    // ---- promise 11

    private static void tradeBounds() {
        EDGES.start(Pipes::large);
        EDGES.bounds("trade: n", 1, 9999, (x, n) -> x.trade(0, 1, n), 1, NONE);
        EDGES.start(Pipes::rich);
        EDGES.refusesOutside("trade: shipper", 0, 1, (x, k) -> x.trade(k, 0, 1), NONE);
        EDGES.refusesOutside("trade: other", 0, 1, (x, k) -> x.trade(1, k, 1), NONE);
        EDGES.refuses("trade: alike", (x, k) -> x.trade(k, k, 1), NONE, 0, 1, 2, -1);
        EDGES.still("trade: NONE ahead of -2, n 0", x -> x.trade(0, 1, 0), NONE);
        EDGES.still("trade: NONE ahead of -2, n 10000", x -> x.trade(0, 1, 10000), NONE);
        GasNominations x = Pipes.large();
        x.trade(0, 1, 9999);
        due("trade: the one has less", x.shipper(0, 4), 19798 - 9999);
        due("trade: the other has more", x.shipper(1, 4), 9999 - 19798);
        due("trade: nothing is parked by it", x.shipper(0, 5), 9999);
        due("trade: the books stay", x.total(4), 9999);
    }

    /** Balances -10 and 51. */
    private static void tradeFits() {
        EDGES.start(Pipes::rich);
        EDGES.acts("trade: all that the other wants", x -> x.trade(1, 0, 10), 1);
        EDGES.still("trade: one more", x -> x.trade(1, 0, 11), REFUSED);
        EDGES.still("trade: below 0 gives", x -> x.trade(0, 1, 1), REFUSED);
        EDGES.still("trade: neither has so much", x -> x.trade(1, 0, 9999), REFUSED);
        EDGES.start(() -> {
            GasNominations x = Pipes.rich();
            x.store(1, 45);
            return x;
        });
        EDGES.acts("trade: all that the one has", x -> x.trade(1, 0, 6), 1);
        EDGES.still("trade: the one has less, the other wants more", x -> x.trade(1, 0, 7), REFUSED);
        EDGES.start(Pipes::plain);
        EDGES.still("trade: 0 gives", x -> x.trade(0, 1, 1), REFUSED);
        EDGES.start(() -> {
            GasNominations x = Pipes.rich();
            x.trade(1, 0, 10);
            return x;
        });
        EDGES.still("trade: 0 gets", x -> x.trade(1, 0, 1), REFUSED);
    }

    // ---- promise 12

    private static void moveBounds() {
        EDGES.start(Pipes::rich);
        EDGES.acts("move: to the first hub", x -> x.move(1, 0), 2);
        EDGES.acts("move: to the last hub", x -> x.move(0, 2), 0);
        EDGES.refusesOutside("move: hub", 0, 2, (x, hub) -> x.move(0, hub), NONE);
        EDGES.acts("move: the last point", x -> x.move(3, 1), 2);
        EDGES.refusesOutside("move: point", 0, 3, (x, k) -> x.move(k, 1), NONE);
        EDGES.still("move: at the first hub", x -> x.move(0, 0), REFUSED);
        EDGES.still("move: at the last hub", x -> x.move(1, 2), REFUSED);
        EDGES.start(() -> Texts.told("hubs 8;out 0 1"));
        EDGES.acts("move: to hub 7", x -> x.move(0, 7), 0);
        EDGES.still("move: no hub 8", x -> x.move(0, 8), NONE);
        EDGES.start(() -> Texts.told("hubs 2;out 0 1"));
        EDGES.acts("move: to hub 1", x -> x.move(0, 1), 0);
        EDGES.still("move: no hub 2", x -> x.move(0, 2), NONE);
    }

    // ---- promise 13

    private static void lendBounds() {
        EDGES.start(Pipes::large);
        EDGES.bounds("lend: n", 1, 9999, (x, n) -> x.lend(0, 1, n), 1, NONE);
        EDGES.start(Pipes::rich);
        EDGES.refusesOutside("lend: shipper", 0, 1, (x, k) -> x.lend(k, 0, 1), NONE);
        EDGES.refusesOutside("lend: other", 0, 1, (x, k) -> x.lend(0, k, 1), NONE);
        EDGES.refuses("lend: alike", (x, k) -> x.lend(k, k, 1), NONE, 0, 1, 2, -1);
        EDGES.refuses("lend: NONE ahead of -2", (x, n) -> x.lend(1, 0, n), NONE, 0, -1, 10000);
    }

    /** Parked 30 and -10, limits 30 and 40. */
    private static void lendFits() {
        EDGES.start(Pipes::rich);
        EDGES.acts("lend: all that is parked", x -> x.lend(0, 1, 30), 1);
        EDGES.still("lend: one more", x -> x.lend(0, 1, 31), REFUSED);
        EDGES.still("lend: who has lent", x -> x.lend(1, 0, 1), REFUSED);
        EDGES.start(() -> {
            GasNominations x = Pipes.rich();
            x.contract(1, 3, 10);
            return x;
        });
        EDGES.acts("lend: to the other's LIMIT", x -> x.lend(0, 1, 20), 1);
        EDGES.refuses("lend: above the other's LIMIT", (x, n) -> x.lend(0, 1, n), BEYOND, 21, 30);
        EDGES.still("lend: -2 ahead of -3", x -> x.lend(0, 1, 31), REFUSED);
        EDGES.refuses("lend: NONE ahead of -2 and -3", (x, n) -> x.lend(0, 1, n), NONE, 0, 10000);
        GasNominations x = Pipes.rich();
        x.contract(1, 3, 10);
        x.lend(0, 1, 20);
        due("lend: the one's", x.shipper(0, 5), 10);
        due("lend: the other's is at its LIMIT", x.shipper(1, 5), 10);
        due("lend: no balance changes", x.shipper(0, 4), -10);
        due("lend: no balance changes", x.shipper(1, 4), 51);
        due("lend: back", x.lend(1, 0, 10), 1);
        due("lend: nothing is parked then", x.lend(1, 0, 1), REFUSED);
        GasNominations y = Texts.told("hubs 2;in 0 9;shipper 0 1 0 9;shipper 0 1 0 0;park 0 0 9");
        y.day();
        due("lend: a LIMIT of 0", y.lend(0, 1, 1), BEYOND);
    }

    // ---- promise 14

    private static void storeBounds() {
        EDGES.start(() -> {
            GasNominations x = Pipes.large();
            x.lend(0, 1, 9999);
            return x;
        });
        EDGES.bounds("store: n", 1, 9999, (x, n) -> x.store(0, n), 1, NONE);
        EDGES.start(Pipes::rich);
        EDGES.refusesOutside("store: shipper", 0, 1, (x, k) -> x.store(k, 1), NONE);
        EDGES.refuses("store: NONE ahead of -2", (x, n) -> x.store(0, n), NONE, 0, -1, 10000);
        EDGES.refuses("store: NONE ahead of -3", (x, n) -> x.store(1, n), NONE, 0, 10000);
    }

    /** Balances -10 and 51, parked 30 and -10, limits 30 and 40. */
    private static void storeFits() {
        EDGES.start(Pipes::rich);
        EDGES.acts("store: to the LIMIT", x -> x.store(1, 50), 1);
        EDGES.still("store: above the LIMIT", x -> x.store(1, 51), BEYOND);
        EDGES.still("store: -2 ahead of -3", x -> x.store(1, 52), REFUSED);
        EDGES.still("store: of a BALANCE below 0", x -> x.store(0, 1), REFUSED);
        EDGES.start(() -> {
            GasNominations x = Pipes.rich();
            x.contract(1, 3, 100);
            return x;
        });
        EDGES.acts("store: the whole BALANCE", x -> x.store(1, 51), 1);
        EDGES.still("store: more than the BALANCE", x -> x.store(1, 52), REFUSED);
        EDGES.start(Pipes::plain);
        EDGES.still("store: of a BALANCE of 0", x -> x.store(0, 1), REFUSED);
        GasNominations x = Pipes.rich();
        x.store(1, 50);
        due("store: BALANCE", x.shipper(1, 4), 1);
        due("store: PARKED", x.shipper(1, 5), 40);
        due("store: the books stay", x.total(4), 61);
    }

    // ---- promise 15

    private static void dayWithoutAnything() {
        EDGES.start(() -> Texts.told("hubs 2"));
        EDGES.acts("day: of a bare pipe", x -> x.day(), 0);
        EDGES.start(() -> Texts.told("hubs 2;in 0 9;out 0 9;shipper 9 1 0 0;nom 0 0 1 0"));
        EDGES.acts("day: of a nomination of 0", x -> x.day(), 0);
        EDGES.start(() -> Texts.told("hubs 2;in 0 0;out 0 9;shipper 9 1 0 0;nom 0 0 1 9"));
        EDGES.acts("day: of a cap of 0", x -> x.day(), 0);
        GasNominations x = Pipes.full();
        due("day: all that is scheduled", x.day(), 9999);
        due("day: one more", x.count(4), 1);
    }

    /** Five ways of shipper 5; by 99 each brings 19898 and takes 99 a day, by -99 the other way round. */
    private static GasNominations swinging(int swing) {
        GasNominations x = Texts.told("hubs 2" + ";in 0 9999;out 0 9999".repeat(5) + ";shipper 0 1 0 0".repeat(6)
            + ";price 999 100");
        for (int i = 0; i < 10; i += 2) {
            x.nominate(5, i, i + 1, 9999);
            x.swing(i, swing);
            x.swing(i + 1, -swing);
        }
        return x;
    }

    private static void days(GasNominations x, int days) {
        for (int i = 0; i < days; i++) {
            x.day();
        }
    }

    /** Ten days of 98995 or -98995; another day would bring 9899 and half of n more, or less. */
    private static GasNominations nearBound(int sign, int n) {
        GasNominations x = swinging(99 * sign);
        days(x, 10);
        int first = sign > 0 ? 0 : 1;
        for (int i = 0; i < 10; i++) {
            x.swing(i, i == first ? 99 : 0);
        }
        x.swing(2 + first, 50);
        x.renominate(1, n);
        return x;
    }

    private static void dayAboveBound() {
        GasNominations x = nearBound(1, 300);
        due("day: below the bound", x.shipper(5, 4), 989950);
        due("day: to the bound", x.day(), 4 * 9999 + 300);
        due("day: 999999", x.shipper(5, 4), 999999);
        EDGES.start(() -> nearBound(1, 302));
        EDGES.still("day: 1000000", y -> y.day(), BEYOND);
        EDGES.start(() -> nearBound(1, 301));
        EDGES.acts("day: half of 301, downwards", y -> y.day(), 4 * 9999 + 301);
        EDGES.start(() -> nearBound(1, 9999));
        EDGES.still("day: far beyond", y -> y.day(), BEYOND);
    }

    private static void dayBelowBound() {
        GasNominations x = nearBound(-1, 300);
        due("day: above the bound", x.shipper(5, 4), -989950);
        due("day: to the bound", x.day(), 4 * 9999 + 300);
        due("day: -999999", x.shipper(5, 4), -999999);
        due("day: within once swings are back", x.swing(1, 0), 99);
        EDGES.start(() -> nearBound(-1, 302));
        EDGES.still("day: -1000000", y -> y.day(), BEYOND);
        EDGES.start(() -> nearBound(-1, 9999));
        EDGES.still("day: far beyond", y -> y.day(), BEYOND);
    }

    /** What counts is the BALANCE behind the day: on the way it may be beyond. */
    private static void dayBoundOfTheEnd() {
        GasNominations x = nearBound(1, 9999);
        x.swing(2, 0);
        x.swing(9, 99);
        due("day: more ahead of less", x.day(), 5 * 9999);
        due("day: as it was", x.shipper(5, 4), 989950);
        // at the bound a day without swings is taken, one that brings 1 more is not
        GasNominations y = nearBound(1, 300);
        y.day();
        y.swing(0, 0);
        y.renominate(1, 2);
        due("day: at the bound, 1 more", y.day(), BEYOND);
        due("day: nothing happens", y.count(4), 11);
        y.renominate(1, 1);
        due("day: at the bound, half of 1 more, downwards", y.day(), 4 * 9999 + 1);
        due("day: at the bound", y.shipper(5, 4), 999999);
    }

    /** Whose BALANCE would be beyond does not matter. */
    private static void dayBoundOfEachShipper() {
        for (int k = 0; k < 6; k++) {
            int shipper = k;
            EDGES.start(() -> {
                GasNominations x = Texts.told("hubs 2" + ";in 0 9999;out 0 9999".repeat(5) + ";shipper 0 1 0 0".repeat(6));
                for (int i = 0; i < 10; i += 2) {
                    x.nominate(shipper, i, i + 1, 9999);
                    x.swing(i, 99);
                    x.swing(i + 1, -99);
                }
                days(x, 10);
                return x;
            });
            EDGES.still("day: beyond, shipper " + k, x -> x.day(), BEYOND);
        }
    }

    /** Only seen beyond the 512th call, where it is free; the document names it all the same. */
    private static void day999() {
        GasNominations x = Texts.told("hubs 2;in 0 9999;in 0 9;out 0 9999;shipper 0 1 0 0;nom 0 0 2 9999");
        days(x, 998);
        due("day: the last one", x.day(), 9999);
        due("day: DAY 999", x.count(4), 999);
        due("day: it is DAY 999", x.day(), REFUSED);
        due("day: it stays", x.count(4), 999);
        GasNominations y = Texts.told("hubs 2" + ";in 0 9999;out 0 9999".repeat(5) + ";shipper 0 1 0 0");
        days(y, 989);
        for (int i = 0; i < 10; i += 2) {
            y.nominate(0, i, i + 1, 9999);
            y.swing(i, 99);
            y.swing(i + 1, -99);
        }
        days(y, 10);
        due("day: close to the bound", y.shipper(0, 4), 989950);
        due("day: -2 ahead of -3", y.day(), REFUSED);
    }

    // ---- promise 16

    /** Balances -10 and 51. */
    private static GasNominations tolerant(int first, int second) {
        GasNominations x = Pipes.rich();
        x.contract(0, 2, first);
        x.contract(1, 2, second);
        return x;
    }

    private static void closeBounds() {
        EDGES.start(() -> tolerant(10, 51));
        EDGES.still("close: both at TOLERANCE", x -> x.close(), REFUSED);
        EDGES.start(() -> tolerant(9999, 9999));
        EDGES.still("close: both within", x -> x.close(), REFUSED);
        EDGES.start(() -> tolerant(9, 51));
        EDGES.acts("close: one below", x -> x.close(), 1);
        EDGES.start(() -> tolerant(10, 50));
        EDGES.acts("close: one above", x -> x.close(), 1);
        EDGES.start(() -> tolerant(9, 50));
        EDGES.acts("close: both", x -> x.close(), 2);
        EDGES.start(() -> tolerant(0, 0));
        EDGES.acts("close: TOLERANCE 0", x -> x.close(), 2);
        EDGES.start(() -> Texts.told("hubs 2;shipper 0 1 0 0"));
        EDGES.still("close: 0 with TOLERANCE 0", x -> x.close(), REFUSED);
        EDGES.start(() -> Texts.told("hubs 2"));
        EDGES.still("close: no shipper", x -> x.close(), REFUSED);
        GasNominations x = tolerant(9, 50);
        x.close();
        due("close: at TOLERANCE below 0", x.shipper(0, 4), -9);
        due("close: at TOLERANCE above 0", x.shipper(1, 4), 50);
        due("close: 1 times 3 times 110 by 100, downwards", x.shipper(0, 6), 3);
        due("close: 1 times 3 times 90 by 100, downwards", x.shipper(1, 6), -2);
        due("close: what went out less what came in", x.total(3), 0);
        due("close: again", x.close(), REFUSED);
        GasNominations y = tolerant(0, 0);
        y.close();
        due("close: 0", y.shipper(0, 4), 0);
        due("close: 0", y.shipper(1, 4), 0);
    }

    /** What is owed for 19 that are received (above) or taken for 10, with a TOLERANCE of 3: 6 are beyond it. */
    private static long owes(String price, boolean above) {
        GasNominations x = Texts.told("hubs 2;in 0 10;out 0 10;shipper 0 1 3 0;nom 0 0 1 10" + price);
        x.swing(above ? 0 : 1, 99);
        x.day();
        x.close();
        return x.shipper(0, 6);
    }

    private static void closeOwes() {
        due("close: FINE 0", owes(";price 7 0", false), 42);
        due("close: FINE 0", owes(";price 7 0", true), -42);
        due("close: FINE 100", owes(";price 7 100", false), 84);
        due("close: FINE 100", owes(";price 7 100", true), 0);
        due("close: FINE 99, downwards", owes(";price 7 99", false), 83);
        due("close: FINE 99, downwards", owes(";price 7 99", true), 0);
        due("close: FINE 1, downwards", owes(";price 7 1", true), -41);
        due("close: PRICE 0", owes(";price 0 100", false), 0);
        due("close: PRICE 0", owes(";price 0 0", true), 0);
        due("close: PRICE 999", owes(";price 999 100", false), 11988);
        due("close: PRICE 999", owes(";price 999 0", true), -5994);
        due("close: no price", owes("", true), 0);
    }

    private static void closeOwesBeyondInt() {
        GasNominations x = swinging(-99);
        days(x, 10);
        due("close: a large BALANCE", x.shipper(5, 4), -989950);
        due("cash: a large BALANCE", x.cash(5, 1), 989950L * 999 * 2);
        due("close: one", x.close(), 1);
        due("close: OWES", x.shipper(5, 6), 1977920100L);
        days(x, 10);
        due("close: once more", x.close(), 1);
        due("close: OWES beyond an int", x.shipper(5, 6), 3955840200L);
        due("close: CASHED", x.total(3), -2 * 989950);
        due("close: the books are empty", x.total(4), 0);
    }

    // ---- promise 17

    private static GasNominations renominated(int times) {
        GasNominations x = Pipes.plain();
        for (int n = 1; n <= times; n++) {
            x.renominate(0, n);
        }
        return x;
    }

    private static void undoTenAtMost() {
        for (int times = 0; times <= 12; times++) {
            GasNominations x = renominated(times);
            int can = Math.min(times, 10);
            due("undo: after " + times, x.count(5), can);
            for (int left = can - 1; left >= 0; left--) {
                due("undo: after " + times, x.undo(), left);
                int n = times - can + left;
                due("undo: the last first", x.nomination(0, 3), n == 0 ? 60 : n);
            }
            due("undo: no more after " + times, x.undo(), NONE);
        }
        EDGES.start(Pipes::plain);
        EDGES.still("undo: none can", x -> x.undo(), NONE);
        EDGES.start(() -> {
            GasNominations x = renominated(11);
            for (int i = 0; i < 10; i++) {
                x.undo();
            }
            return x;
        });
        EDGES.still("undo: none can any more", x -> x.undo(), NONE);
    }

    private static void undoRing() {
        GasNominations x = renominated(12);
        for (int i = 0; i < 3; i++) {
            x.undo();
        }
        for (int n = 101; n <= 105; n++) {
            x.renominate(0, n);
        }
        due("undo: ten again", x.count(5), 10);
        int[] want = {104, 103, 102, 101, 9, 8, 7, 6, 5, 4};
        for (int i = 0; i < 10; i++) {
            due("undo: left", x.undo(), 9 - i);
            due("undo: what was then", x.nomination(0, 3), want[i]);
        }
        due("undo: none", x.undo(), NONE);
        for (int n = 201; n <= 231; n++) {
            x.renominate(0, n);
        }
        for (int i = 0; i < 10; i++) {
            due("undo: left, round and round", x.undo(), 9 - i);
        }
        due("undo: round and round", x.nomination(0, 3), 221);
        due("undo: none", x.undo(), NONE);
    }

    /** Neither refusals nor questions nor the tape nor shelves are acts. */
    private static void undoOnlyActs() {
        GasNominations x = Pipes.plain();
        x.renominate(0, 60);
        x.nominate(9, 9, 9, 9);
        x.swing(0, 0);
        x.close();
        x.feed(0, 0, 0, 0, 0);
        x.end(3);
        x.keep(0);
        x.more(0, 0, 2, 5);
        x.ahead(0, 9);
        x.widen(0, 0, 5);
        due("undo: no act", x.count(5), 0);
        due("undo: no act", x.undo(), NONE);
        x.renominate(0, 5);
        due("undo: the only act", x.undo(), 0);
        due("undo: not the tape", x.count(6), 3);
        due("undo: not the shelf", x.count(7), 1);
        x.renominate(0, 5);
        x.tell();
        due("undo: a fault of tell() leaves the acts", x.count(5), 1);
        Texts.tell(x, "hubs 2");
        due("undo: nothing behind tell()", x.undo(), NONE);
    }

    private static void undoEachAct() {
        EDGES.start(Pipes::rich);
        EDGES.still("undo: nominate", x -> x.nominate(1, 0, 2, 7) + 10 * x.undo(), 54);
        EDGES.still("undo: renominate", x -> x.renominate(1, 7) + 100 * x.undo(), 570);
        EDGES.still("undo: withdraw", x -> x.withdraw(1) + 10 * x.undo(), 53);
        EDGES.still("undo: limit", x -> x.limit(1, 0, 7) + 1000 * x.undo(), 5100);
        EDGES.still("undo: swing", x -> x.swing(3, 7) + 100 * x.undo(), 525);
        EDGES.still("undo: contract", x -> x.contract(0, 2, 7) + 100 * x.undo(), 510);
        EDGES.still("undo: trade", x -> x.trade(1, 0, 7) + 10 * x.undo(), 51);
        EDGES.still("undo: move", x -> x.move(1, 0) + 10 * x.undo(), 52);
        EDGES.still("undo: lend", x -> x.lend(0, 1, 7) + 10 * x.undo(), 51);
        EDGES.still("undo: store", x -> x.store(1, 7) + 10 * x.undo(), 51);
        EDGES.still("undo: day", x -> x.day() + 1000 * x.undo(), 5110);
        EDGES.still("undo: close", x -> x.close() + 10 * x.undo(), 51);
        // the ninth day pushes the first one out of the log; undone, it is there again
        GasNominations x = Pipes.swung();
        days(x, 8);
        due("undo: the log is full", x.log(7, 1), 51);
        x.day();
        due("undo: the first day is out", x.log(7, 1), 102);
        x.undo();
        due("undo: the first day is there again", x.log(7, 1), 51);
        due("undo: the ninth is not", x.log(8, 1), NO);
    }

    /** The sixth shipper, the tenth point and the sixteenth nomination come back as the first ones do. */
    private static void undoOfTheLastRows() {
        GasNominations x = swinging(-99);
        days(x, 2);
        x.keep(0);
        x.close();
        due("undo: the sixth owes", x.shipper(5, 6), 2 * 98995L * 999 * 2);
        x.keep(1);
        x.undo();
        due("undo: the sixth owes nothing", x.shipper(5, 6), 0);
        due("undo: the sixth has its balance", x.shipper(5, 4), -2 * 98995);
        due("undo: the sixth has its log", x.log(1, 5), -98995);
        due("back: the sixth owes", x.back(1), 10);
        due("back: the sixth owes", x.shipper(5, 6), 2 * 98995L * 999 * 2);
        due("back: the sixth owes nothing", x.back(0), 10);
        due("back: the sixth owes nothing", x.shipper(5, 6), 0);
        x.swing(9, 0);
        x.undo();
        due("undo: the tenth point", x.point(9, 3), 199);
        EDGES.start(Pipes::nearlyFull);
        EDGES.acts("undo: the sixteenth nomination", y -> y.nominate(5, 8, 9, 7) - y.undo() + y.count(3), 15 - 9 + 15);
        EDGES.start(Pipes::full);
        EDGES.acts("undo: the last of sixteen", y -> y.withdraw(15) + y.undo() + y.nomination(15, 3), 15 + 9 + 9999);
        EDGES.acts("undo: the first of sixteen", y -> y.withdraw(0) + y.undo() + y.nomination(15, 3), 15 + 9 + 9999);
    }

    // ---- promises 18 and 19

    private static void keepBounds() {
        EDGES.start(Pipes::rich);
        EDGES.bounds("keep: shelf", 0, 1, (x, shelf) -> x.keep(shelf), 4, NONE);
        EDGES.start(GasNominations::new);
        EDGES.bounds("keep: shelf, without a pipe", 0, 1, (x, shelf) -> x.keep(shelf), 0, NONE);
        EDGES.start(Pipes::full);
        EDGES.acts("keep: ten points", x -> x.keep(0), 10);
        GasNominations x = Pipes.rich();
        x.keep(0);
        due("keep: no act", x.count(5), 5);
        due("keep: the tape stays", x.count(6), 21);
        due("keep: both", x.count(7), 3);
        x.withdraw(0);
        x.keep(0);
        x.back(0);
        due("keep: the later one", x.count(3), 3);
    }

    private static void backBounds() {
        EDGES.start(Pipes::rich);
        EDGES.still("back: nothing is", x -> x.back(0), REFUSED);
        EDGES.acts("back: something is", x -> x.back(1), 4);
        EDGES.refusesOutside("back: shelf", 0, 1, (x, shelf) -> x.back(shelf), NONE);
        EDGES.start(GasNominations::new);
        EDGES.refuses("back: nothing is", (x, shelf) -> x.back(shelf), REFUSED, 0, 1);
        EDGES.refusesOutside("back: NONE ahead of -2", 0, 1, (x, shelf) -> x.back(shelf), NONE);
        GasNominations x = new GasNominations();
        x.keep(1);
        due("back: that there was no pipe is kept", x.back(1), 0);
        Texts.tell(x, "hubs 2;in 0 1");
        due("back: no pipe", x.back(1), 0);
        due("back: no pipe", x.count(0), 0);
        due("back: no pipe", x.letter(NONE), 0);
        due("back: the other shelf", x.back(0), REFUSED);
    }

    private static void backLeaves() {
        GasNominations x = Pipes.rich();
        x.close();
        x.keep(0);
        String then = Look.all(x);
        GasNominations y = Pipes.rich();
        y.close();
        y.keep(0);
        CHECK.isTrue("back: two looks are alike", then.equals(Look.all(y)));
        GasNominations z = Pipes.rich();
        z.close();
        z.keep(0);
        z.day();
        z.withdraw(0);
        z.limit(1, 0, 0);
        due("back: nine acts", z.count(5), 9);
        due("back", z.back(0), 4);
        due("back: nothing can be undone", z.count(5), 0);
        due("back: nothing can be undone", z.undo(), NONE);
        due("back: the tape stays", z.count(6), 21);
        due("back: the shelves stay", z.count(7), 3);
        due("back: day", z.count(4), 1);
        due("back: owes", z.shipper(1, 6), -124);
        due("back: cashed", z.total(3), 46);
        due("back: log", z.log(0, 1), 51);
        due("back: no log further back", z.log(1, 1), NO);
        due("back: swing", z.point(2, 3), 1);
        due("back: cap", z.segment(0, 0), 100);
        due("back: nominations", z.count(3), 4);
        z.withdraw(0);
        due("back: an act again", z.undo(), 0);
        z.withdraw(0);
        due("back: what is kept does not change", z.back(0), 4);
        due("back: what is kept does not change", z.count(3), 4);
        due("back: the other shelf", z.back(1), 4);
        due("back: the other shelf", z.nomination(0, 3), 61);
        due("back: the other shelf, day", z.count(4), 0);
    }
}
