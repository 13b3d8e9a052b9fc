/** The edges of the SCHEDULE, of FUEL and of a DAY: what just fits and what is one too much, at each STOP. */
public final class ScheduleEdgesTest {
    private static final int NOTHING_CUT = -2;

    private static final Check CHECK = new Check("edges of the schedule");

    private ScheduleEdgesTest() {
    }

    public static void main(String[] args) {
        fitsAtEachStop();
        limitsWithWhatIsParked();
        nothingIsLeft();
        partsThatFit();
        whatIsOver();
        sixteenParts();
        pointsAheadOfSegments();
        segmentsByNumbers();
        limitsComeLast();
        firmLasts();
        ranksByNumbers();
        leftForTheNextClass();
        waysWithoutSegments();
        causeOfTheFirstClass();
        fuelDownwards();
        fuelOneBehindTheOther();
        receivedDownwards();
        takenDownwards();
        parkedOnADay();
        lentOnADay();
        byTheScheduleAsItWas();
        CHECK.finish();
    }

    private static void due(String what, long got, long want) {
        CHECK.due(what, got, want);
    }

    private static void scheduled(String what, String text, int... want) {
        GasNominations x = Texts.told(text);
        due(what + ": nominations", x.count(3), want.length);
        for (int i = 0; i < want.length; i++) {
            due(what + ": plan(" + i + ", 0)", x.plan(i, 0), want[i]);
        }
    }

    private static void causes(String what, String text, int... want) {
        GasNominations x = Texts.told(text);
        for (int i = 0; i < want.length; i++) {
            due(what + ": cause(" + i + ")", x.cause(i), want[i]);
        }
    }

    /** Of 7 all goes, of 8 one is cut by that stop, whatever the class. */
    private static void seven(String what, String ahead, String nomination, int cause) {
        for (int firm = 0; firm <= 8; firm += 4) {
            String text = ahead + ";shipper " + firm + " 5 0 9;" + nomination;
            scheduled(what + ", 7", text + " 7", 7);
            causes(what + ", 7", text + " 7", NOTHING_CUT);
            scheduled(what + ", 8", text + " 8", 7);
            causes(what + ", 8", text + " 8", cause);
        }
    }

    private static void fitsAtEachStop() {
        seven("IN", "hubs 2;in 0 7;out 1 9", "nom 0 0 1", 100);
        seven("up", "hubs 2;segment 0 7 0;in 0 9;out 1 9", "nom 0 0 1", 200);
        seven("up, the last", "hubs 8;segment 6 7 0;in 0 9;out 7 9", "nom 0 0 1", 206);
        seven("down", "hubs 2;segment 0 7 0;in 1 9;out 0 9", "nom 0 0 1", 300);
        seven("down, the last", "hubs 8;segment 6 7 0;in 7 9;out 0 9", "nom 0 0 1", 306);
        seven("OUT", "hubs 2;in 0 9;out 1 7", "nom 0 0 1", 400);
        seven("IN of what is parked", "hubs 2;in 0 7", "park 0 0", 100);
        seven("OUT of a loan", "hubs 2;out 0 7", "loan 0 0", 400);
        seven("IN of what is parked, the last point", "hubs 2" + ";out 0 9".repeat(9) + ";in 0 7", "park 0 9", 100);
        seven("OUT of a loan, the last point", "hubs 2" + ";in 0 9".repeat(9) + ";out 0 7", "loan 0 9", 400);
        seven("IN, the last point", "hubs 2;out 0 9" + ";in 0 9".repeat(8) + ";in 0 7", "nom 0 9 0", 100);
        seven("OUT, the last point", "hubs 2;in 0 9" + ";out 0 9".repeat(8) + ";out 0 7", "nom 0 0 9", 400);
        String limit = ";shipper 0 1 0 7;";
        scheduled("LIMIT, 7", "hubs 2;in 0 9" + limit + "park 0 0 7", 7);
        scheduled("LIMIT, 8", "hubs 2;in 0 9" + limit + "park 0 0 8", 7);
        causes("LIMIT, 7", "hubs 2;in 0 9" + limit + "park 0 0 7", NOTHING_CUT);
        causes("LIMIT, 8", "hubs 2;in 0 9" + limit + "park 0 0 8", 500);
        scheduled("LIMIT of loans, 7", "hubs 2;out 0 9" + limit + "loan 0 0 7", 7);
        scheduled("LIMIT of loans, 8", "hubs 2;out 0 9" + limit + "loan 0 0 8", 7);
        causes("LIMIT of loans, 7", "hubs 2;out 0 9" + limit + "loan 0 0 7", NOTHING_CUT);
        causes("LIMIT of loans, 8", "hubs 2;out 0 9" + limit + "loan 0 0 8", 500);
        scheduled("LIMIT is not for others", "hubs 2;in 0 9;out 0 9;shipper 0 1 0 0;nom 0 0 1 9", 9);
    }

    /** LIMIT less PARKED; of loans LIMIT and PARKED. */
    private static void limitsWithWhatIsParked() {
        GasNominations x = Texts.told("hubs 2;in 0 99;out 0 99;shipper 0 1 0 10;park 0 0 4");
        x.day();
        x.renominate(0, 6);
        due("limit: 6 more", x.plan(0, 0), 6);
        x.renominate(0, 7);
        due("limit: 7 more", x.plan(0, 0), 6);
        due("limit: loans, 14", x.more(0, -1, 1, 14), 14);
        due("limit: loans, 15", x.more(0, -1, 1, 15), 14);
        x.day();
        due("limit: none more", x.plan(0, 0), 0);
        due("limit: none more", x.cause(0), 500);
        due("limit: loans, 20", x.more(0, -1, 1, 99), 20);
        GasNominations y = Texts.told("hubs 2;in 0 99;out 0 99;shipper 0 1 0 10;loan 0 1 4");
        y.day();
        y.withdraw(0);
        due("limit: lent 4, 6 more loans", y.more(0, -1, 1, 99), 6);
        due("limit: lent 4, 14 can be parked", y.more(0, 0, -1, 99), 14);
        // 19998 can be lent where 9999 are parked: of three times 9999 two thirds
        GasNominations z = Texts.told("hubs 2;in 0 9999;out 0 9999;out 0 9999;out 0 9999;shipper 0 1 0 9999;park 0 0 9999");
        z.day();
        z.nominate(0, -1, 1, 9999);
        z.nominate(0, -1, 2, 9999);
        due("limit: twice 9999 can be lent", z.plan(2, 0), 9999);
        due("limit: twice 9999 can be lent", z.cause(2), NOTHING_CUT);
        z.nominate(0, -1, 3, 9999);
        due("limit: three times 9999", z.plan(1, 0), 6666);
        due("limit: three times 9999", z.plan(3, 0), 6666);
        due("limit: three times 9999", z.cause(3), 500);
    }

    private static void nothingIsLeft() {
        scheduled("a CAP of 0", "hubs 2;in 0 0;out 0 9;shipper 9 1 0 0;nom 0 0 1 5;nom 0 0 1 5", 0, 0);
        scheduled("a segment of 0", "hubs 2;segment 0 0 0;in 0 9;out 1 9;shipper 0 1 0 0;nom 0 0 1 5", 0);
        scheduled("a LIMIT of 0", "hubs 2;in 0 9;out 1 9;shipper 0 1 0 0;park 0 0 5;loan 0 1 5", 0, 0);
        causes("a LIMIT of 0", "hubs 2;in 0 9;out 1 9;shipper 0 1 0 0;park 0 0 5;loan 0 1 5", 500, 500);
        scheduled("a nomination of 0", "hubs 2;in 0 0;out 0 0;shipper 9 1 0 0;nom 0 0 1 0", 0);
        causes("a nomination of 0 is not cut", "hubs 2;in 0 0;out 0 0;shipper 9 1 0 0;nom 0 0 1 0", NOTHING_CUT);
    }

    private static final String TEN = "hubs 2;in 0 10;out 0 9999;shipper 0 1 0 0";

    private static void partsThatFit() {
        scheduled("just so much", TEN + ";nom 0 0 1 4;nom 0 0 1 3;nom 0 0 1 3", 4, 3, 3);
        scheduled("one more than that", TEN + ";nom 0 0 1 4;nom 0 0 1 4;nom 0 0 1 3", 4, 4, 2);
        scheduled("by halves", TEN + ";nom 0 0 1 10;nom 0 0 1 10", 5, 5);
        scheduled("downwards", TEN + ";nom 0 0 1 9999;nom 0 0 1 1", 10, 0);
        scheduled("one alone", TEN + ";nom 0 0 1 9999", 10);
    }

    private static void whatIsOver() {
        // 2, 1, 1 downwards; the one over goes to the first, though its part came out even
        scheduled("to one that came out even", "hubs 2;in 0 5;out 0 99;shipper 0 1 0 0;"
            + "nom 0 0 1 4;nom 0 0 1 3;nom 0 0 1 3", 3, 1, 1);
        // 0, 3, 3, 3: the one over goes past the one of 0
        scheduled("not to one of 0", "hubs 2;in 0 10;out 0 99;shipper 0 1 0 0;"
            + "nom 0 0 1 0;nom 0 0 1 4;nom 0 0 1 4;nom 0 0 1 4", 0, 4, 3, 3);
        // 0, 0, 3 downwards: two over, one at most to each
        scheduled("one at most to each", "hubs 2;in 0 5;out 0 99;shipper 0 1 0 0;"
            + "nom 0 0 1 1;nom 0 0 1 1;nom 0 0 1 6", 1, 1, 3);
        causes("what is over is not cut", "hubs 2;in 0 5;out 0 99;shipper 0 1 0 0;"
            + "nom 0 0 1 1;nom 0 0 1 1;nom 0 0 1 6", NOTHING_CUT, NOTHING_CUT, 100);
        // numbers of nominations, not of shippers
        scheduled("by numbers", "hubs 2;in 0 1;out 0 99;shipper 0 1 0 0;shipper 0 1 0 0;nom 1 0 1 1;nom 0 0 1 1", 1, 0);
        scheduled("of these parts alone", "hubs 2;in 0 9;in 0 1;out 0 99;shipper 0 1 0 0;"
            + "nom 0 0 2 5;nom 0 1 2 1;nom 0 1 2 1", 5, 1, 0);
    }

    private static void sixteenParts() {
        GasNominations x = Texts.told("hubs 2;in 0 15;out 0 9999;shipper 0 1 0 0");
        for (int i = 0; i < 16; i++) {
            x.nominate(0, 0, 1, 1);
        }
        for (int i = 0; i < 15; i++) {
            due("sixteen of 1, 15 are left", x.plan(i, 0), 1);
        }
        due("sixteen of 1, the last", x.plan(15, 0), 0);
        due("sixteen of 1, who is cut", x.blame(100), 1 << 15);
        due("sixteen of 1, who is not", x.blame(-2), (1 << 15) - 1);
        x.limit(0, 0, 16);
        due("sixteen of 1 fit", x.plan(15, 0), 1);
        x.limit(0, 0, 9999);
        for (int i = 0; i < 16; i++) {
            x.renominate(i, 9999);
        }
        // 9999 times 9999 by 159984 is 624, 15 are over
        due("sixteen of 9999, the first", x.plan(0, 0), 625);
        due("sixteen of 9999, the fifteenth", x.plan(14, 0), 625);
        due("sixteen of 9999, the last", x.plan(15, 0), 624);
        due("sixteen of 9999, in all", x.day(), 9999);
    }

    /** In each of these the other order would give the second one less. */
    private static void pointsAheadOfSegments() {
        scheduled("IN ahead of up", "hubs 2;segment 0 8 0;in 0 4;in 0 99;out 1 99;shipper 0 1 0 0;"
            + "nom 0 0 2 8;nom 0 1 2 4", 4, 4);
        scheduled("IN ahead of down", "hubs 2;segment 0 8 0;in 1 4;in 1 99;out 0 99;shipper 0 1 0 0;"
            + "nom 0 0 2 8;nom 0 1 2 4", 4, 4);
        scheduled("IN ahead of OUT, though its number is higher", "hubs 2;out 0 8;in 0 4;in 0 99;shipper 0 1 0 0;"
            + "nom 0 1 0 8;nom 0 2 0 4", 4, 4);
        scheduled("up ahead of OUT", "hubs 2;segment 0 4 0;in 0 99;in 1 99;out 1 8;shipper 0 1 0 0;"
            + "nom 0 0 2 8;nom 0 1 2 4", 4, 4);
        scheduled("down ahead of OUT", "hubs 2;segment 0 4 0;in 1 99;in 0 99;out 0 8;shipper 0 1 0 0;"
            + "nom 0 0 2 8;nom 0 1 2 4", 4, 4);
        // what is not cut any more behind the IN point does not come back to it
        scheduled("OUT behind IN", "hubs 2;in 0 8;out 0 2;out 0 99;shipper 0 1 0 0;nom 0 0 1 8;nom 0 0 2 8", 2, 4);
    }

    private static void segmentsByNumbers() {
        scheduled("up by numbers", "hubs 3;segment 0 4 0;segment 1 8 0;in 0 99;in 1 99;out 2 99;shipper 0 1 0 0;"
            + "nom 0 0 2 8;nom 0 1 2 4", 4, 4);
        scheduled("down by numbers, too", "hubs 3;segment 0 4 0;segment 1 8 0;in 2 99;out 0 99;out 1 99;shipper 0 1 0 0;"
            + "nom 0 0 1 8;nom 0 0 2 4", 4, 4);
        causes("up, the first of two", "hubs 3;segment 0 4 0;segment 1 3 0;in 0 99;out 2 99;shipper 0 1 0 0;"
            + "nom 0 0 1 8", 200);
        causes("down, the first of two", "hubs 3;segment 0 4 0;segment 1 3 0;in 2 99;out 0 99;shipper 0 1 0 0;"
            + "nom 0 0 1 8", 300);
        causes("down, only the second", "hubs 3;segment 0 9 0;segment 1 3 0;in 2 99;out 0 99;shipper 0 1 0 0;"
            + "nom 0 0 1 8", 301);
        scheduled("no segment beside the way", "hubs 4;segment 0 0 0;segment 2 0 0;in 1 9;out 2 9;in 2 9;out 1 9;"
            + "shipper 0 1 0 0;nom 0 0 1 9;nom 0 2 3 9", 9, 9);
    }

    private static void limitsComeLast() {
        scheduled("IN ahead of LIMIT", "hubs 2;in 0 4;in 0 99;shipper 0 1 0 8;park 0 0 8;park 0 1 4", 4, 4);
        scheduled("OUT ahead of LIMIT", "hubs 2;out 0 4;out 0 99;shipper 0 1 0 8;loan 0 0 8;loan 0 1 4", 4, 4);
        scheduled("each SHIPPER's own", "hubs 2;in 0 99;shipper 0 1 0 3;shipper 0 1 0 5;park 1 0 9;park 0 0 9", 5, 3);
        scheduled("what is parked and loans by themselves", "hubs 2;in 0 99;out 0 99;shipper 0 1 0 7;"
            + "loan 0 1 9;park 0 0 9", 7, 7);
        scheduled("FIRM first there, too", "hubs 2;in 0 99;shipper 5 1 0 7;park 0 0 5;park 0 0 9", 5, 2);
    }

    private static final String TIGHT = "hubs 2;in 0 10;out 0 99;shipper ";

    private static void firmLasts() {
        String noms = " 9 0 0;shipper 0 1 0 0;nom 0 0 1 4;nom 1 0 1 10;nom 0 0 1 4";
        scheduled("FIRM 0", TIGHT + "0" + noms, 0, 10, 0);
        scheduled("FIRM of the first in part", TIGHT + "3" + noms, 3, 7, 0);
        scheduled("FIRM of the first alone", TIGHT + "4" + noms, 4, 6, 0);
        scheduled("FIRM of the second in part", TIGHT + "5" + noms, 4, 5, 1);
        scheduled("FIRM of both", TIGHT + "8" + noms, 4, 2, 4);
        scheduled("FIRM beyond both", TIGHT + "9999" + noms, 4, 2, 4);
        scheduled("FIRM past one of 0", TIGHT + "4 9 0 0;shipper 0 1 0 0;nom 0 0 1 0;nom 1 0 1 10;nom 0 0 1 4", 0, 6, 4);
        scheduled("FIRM of what is parked", TIGHT + "4 9 0 99;shipper 0 1 0 0;park 0 0 4;nom 1 0 1 10;nom 0 0 1 4", 4, 6, 0);
        scheduled("FIRM that is used by a loan", TIGHT + "4 9 0 99;shipper 0 1 0 0;loan 0 1 4;nom 1 0 1 10;nom 0 0 1 4",
            4, 10, 0);
        // what is cut of FIRM is not asked for again
        scheduled("FIRM that is cut elsewhere", "hubs 2;in 0 3;in 0 9;out 0 99;shipper 8 1 0 0;nom 0 0 2 8;nom 0 1 2 9", 3, 9);
        GasNominations x = Texts.told(TIGHT + "5" + noms);
        due("plan: FIRM of the first", x.plan(0, 1), 4);
        due("plan: FIRM of the other", x.plan(1, 1), 0);
        due("plan: FIRM of the second", x.plan(2, 1), 1);
    }

    private static void ranksByNumbers() {
        for (int rank = 1; rank < 9; rank++) {
            String text = TIGHT + "0 " + (rank + 1) + " 0 0;shipper 0 " + rank + " 0 0;nom 0 0 1 10;nom 1 0 1 9";
            scheduled("RANK " + rank + " ahead of the next", text, 1, 9);
        }
        scheduled("RANK 1 ahead of 9", TIGHT + "0 9 0 0;shipper 0 1 0 0;nom 0 0 1 10;nom 1 0 1 10", 0, 10);
        scheduled("one RANK, one CLASS", TIGHT + "0 9 0 0;shipper 0 9 0 0;nom 0 0 1 10;nom 1 0 1 10", 5, 5);
        scheduled("FIRM of RANK 9 ahead of RANK 1", TIGHT + "9999 9 0 0;shipper 0 1 0 0;nom 0 0 1 10;nom 1 0 1 10", 10, 0);
        scheduled("FIRM is one CLASS", TIGHT + "10 9 0 0;shipper 10 1 0 0;nom 0 0 1 10;nom 1 0 1 10", 5, 5);
    }

    private static void leftForTheNextClass() {
        String later = "hubs 2;in 0 10;out 0 5;out 0 99;shipper 0 1 0 0;shipper 0 2 0 0;";
        scheduled("what goes by in the end", later + "nom 0 0 1 10;nom 1 0 2 10", 5, 5);
        scheduled("not what was asked", later + "nom 0 0 1 9999;nom 1 0 2 4", 5, 4);
        GasNominations x = Texts.told(later + "nom 0 0 1 10;nom 1 0 2 4");
        due("left at IN", x.point(0, 4), 1);
        due("left at OUT", x.point(1, 4), 0);
        due("left at the other OUT", x.point(2, 4), 95);
    }

    private static void waysWithoutSegments() {
        scheduled("at one HUB", "hubs 2;segment 0 0 50;in 1 9;out 1 9;shipper 0 1 0 9;nom 0 0 1 9", 9);
        scheduled("parked and lent", "hubs 2;segment 0 0 50;in 0 9;out 1 9;shipper 0 1 0 9;park 0 0 9;loan 0 1 9", 9, 9);
        GasNominations x = Texts.told("hubs 2;segment 0 0 50;in 1 9;out 1 9;shipper 0 1 0 9;nom 0 0 1 9");
        due("at one HUB no fuel", x.plan(0, 3), 0);
        x.move(0, 0);
        due("moved, over the segment", x.plan(0, 0), 0);
        due("moved, over the segment", x.cause(0), 200);
        x.move(0, 1);
        x.move(1, 0);
        due("moved, down", x.cause(0), 300);
    }

    private static void causeOfTheFirstClass() {
        // of 9 the FIRM 6 are cut at OUT to 4, the others at IN, which stands ahead but is asked later
        causes("class by class", "hubs 2;in 0 6;out 0 4;shipper 6 1 0 0;nom 0 0 1 9", 400);
        causes("FIRM 4 fits, the rest is cut at OUT", "hubs 2;in 0 9;out 0 4;shipper 4 1 0 0;nom 0 0 1 9", 400);
        causes("FIRM 4 fits, the rest is cut at IN", "hubs 2;in 0 4;out 0 4;shipper 4 1 0 0;nom 0 0 1 9", 100);
        causes("FIRM 0", "hubs 2;in 0 6;out 0 4;shipper 0 1 0 0;nom 0 0 1 9", 100);
        causes("IN and LIMIT", "hubs 2;in 0 6;shipper 6 1 0 4;park 0 0 9", 500);
    }

    private static void fuelDownwards() {
        GasNominations x = Texts.told("hubs 2;segment 0 9999 50;in 0 9999;out 1 9999;shipper 0 1 0 0;nom 0 0 1 1");
        int[][] want = {{0, 0}, {1, 0}, {19, 0}, {20, 1}, {39, 1}, {40, 2}, {9999, 499}};
        for (int[] row : want) {
            x.renominate(0, row[0]);
            due("fuel of " + row[0], x.plan(0, 3), row[1]);
            due("delivered of " + row[0], x.plan(0, 2), row[0] - row[1]);
        }
        GasNominations y = Texts.told("hubs 2;segment 0 9999 1;in 0 9999;out 1 9999;shipper 0 1 0 0;nom 0 0 1 999");
        due("fuel 1 of 999", y.plan(0, 3), 0);
        y.renominate(0, 1000);
        due("fuel 1 of 1000", y.plan(0, 3), 1);
        due("fuel 0", Texts.told("hubs 2;in 0 9999;out 1 9999;shipper 0 1 0 0;nom 0 0 1 9999").plan(0, 3), 0);
        // of all that is scheduled, not of each class by itself: 15 FIRM and 15 others are 30
        due("fuel of all classes together", Texts.told("hubs 2;segment 0 99 50;in 0 99;out 1 99;shipper 15 1 0 0;"
            + "nom 0 0 1 30").plan(0, 3), 1);
    }

    private static void fuelOneBehindTheOther() {
        StringBuilder text = new StringBuilder("hubs 8");
        for (int i = 0; i < 7; i++) {
            text.append(";segment ").append(i).append(" 9999 50");
        }
        GasNominations x = Texts.told(text + ";in 0 9999;out 7 9999;shipper 0 1 0 0;nom 0 0 1 9999");
        // 9500, 9025, 8574, 8146, 7739, 7353, 6986
        due("fuel of seven segments", x.plan(0, 2), 6986);
        due("fuel of seven segments", x.plan(0, 3), 9999 - 6986);
        due("leaves over six", x.leaves(0, 6, 9999), 7353);
        due("leaves the other way", x.leaves(7, 0, 9999), 6986);
        // 60: 3 and 1 up, 1 and 2 down
        String two = "hubs 3;segment 0 99 50;segment 1 99 20;in 0 99;in 2 99;out 0 99;out 2 99;shipper 0 1 0 0;";
        due("fuel in the order of the way, up", Texts.told(two + "nom 0 0 3 60").plan(0, 3), 4);
        due("fuel in the order of the way, down", Texts.told(two + "nom 0 1 2 60").plan(0, 3), 3);
    }

    /** The balance behind a day of n from a point that swings to one that does not. */
    private static long received(int n, int swing) {
        GasNominations x = Texts.told("hubs 2;in 0 9999;out 0 9999;shipper 0 1 0 0;nom 0 0 1 " + n);
        x.swing(0, swing);
        x.day();
        due("received: the books", x.shipper(0, 4), x.total(0) - x.total(1));
        return x.total(0);
    }

    private static void receivedDownwards() {
        due("received: 1 at 99", received(1, 99), 1);
        due("received: 100 at 99", received(100, 99), 199);
        due("received: 101 at 99", received(101, 99), 200);
        due("received: 99 at -99", received(99, -99), 0);
        due("received: 100 at -99", received(100, -99), 1);
        due("received: 199 at -99", received(199, -99), 1);
        due("received: 1 at -1", received(1, -1), 0);
        due("received: 9999 at 99", received(9999, 99), 19898);
        due("received: 9999 at -99", received(9999, -99), 99);
        due("received: 9999 at 0", received(9999, 0), 9999);
        due("received: 0 at 99", received(0, 99), 0);
    }

    private static void takenDownwards() {
        GasNominations x = Texts.told("hubs 2;segment 0 9999 50;in 0 9999;out 1 9999;shipper 0 1 0 0;nom 0 0 1 21");
        x.swing(1, 99);
        x.day();
        // 20 are delivered, 39 taken
        due("taken: of what is delivered", x.total(1), 39);
        due("taken: received", x.total(0), 21);
        due("taken: fuel", x.total(2), 1);
        due("taken: the balance", x.shipper(0, 4), 21 - 1 - 39);
        x.swing(1, -99);
        x.renominate(0, 105);
        x.day();
        // 5 are fuel, of 100 one is taken
        due("taken: of 100 at -99", x.total(1), 39 + 1);
        x.renominate(0, 104);
        x.day();
        due("taken: of 99 at -99", x.total(1), 40);
    }

    private static void parkedOnADay() {
        GasNominations x = Texts.told("hubs 2;in 0 99;shipper 0 1 0 10;park 0 0 7");
        x.swing(0, 50);
        due("parked: a day", x.day(), 7);
        due("parked: received", x.total(0), 10);
        due("parked: nothing is taken", x.total(1), 0);
        due("parked: the balance has what is beyond", x.shipper(0, 4), 3);
        due("parked: PARKED", x.shipper(0, 5), 7);
        due("parked: as far as the LIMIT", x.day(), 3);
        due("parked: half of 3, downwards", x.shipper(0, 4), 3 + 1);
        due("parked: at the LIMIT", x.shipper(0, 5), 10);
        due("parked: nothing more", x.day(), 0);
        due("parked: nothing more", x.shipper(0, 5), 10);
    }

    private static void lentOnADay() {
        GasNominations x = Texts.told("hubs 2;out 0 99;shipper 0 1 0 10;loan 0 0 7");
        x.swing(0, 50);
        due("lent: a day", x.day(), 7);
        due("lent: nothing is received", x.total(0), 0);
        due("lent: taken", x.total(1), 10);
        due("lent: the balance", x.shipper(0, 4), -3);
        due("lent: PARKED below 0", x.shipper(0, 5), -7);
        due("lent: as far as the LIMIT", x.day(), 3);
        due("lent: half of 3, downwards", x.shipper(0, 4), -3 - 1);
        due("lent: at the LIMIT", x.shipper(0, 5), -10);
        due("lent: nothing more", x.day(), 0);
        due("lent: nothing more", x.shipper(0, 5), -10);
    }

    /** What is parked on a day does not help a loan of the same day. */
    private static void byTheScheduleAsItWas() {
        GasNominations x = Texts.told("hubs 2;in 0 99;out 0 99;shipper 0 1 0 10;park 0 0 8;loan 0 1 30");
        due("day: both by the LIMIT", x.day(), 18);
        due("day: 8 parked, 10 lent", x.shipper(0, 5), -2);
        due("day: then 8 and 8", x.day(), 16);
        due("day: as much each way", x.shipper(0, 5), -2);
        due("day: and so on", x.day(), 16);
    }
}
