import java.util.function.ToLongFunction;

/** The edges of promises 1 to 4 and of a TEXT: the tape, each number of a text, each place that can be wrong. */
public final class TextEdgesTest {
    private static final int NONE = GasNominations.NONE;
    private static final int CANNOT_STAND = 1;
    private static final int NOT_AS_TOLD = 2;
    private static final int TOO_MANY = 3;

    /** IN points 0 and 2, OUT points 1 and 3, shippers 0 and 1. */
    private static final String AHEAD = "hubs 2;in 0 1;out 1 1;in 1 1;out 0 1;shipper 0 1 0 0;shipper 0 1 0 0;";
    private static final String TEN_POINTS = "hubs 2" + ";in 0 1;out 1 1".repeat(5);
    private static final String SIX_SHIPPERS = "hubs 2" + ";shipper 0 1 0 0".repeat(6);
    private static final String SIXTEEN = AHEAD + "nom 0 0 1 1" + ";nom 1 2 3 0;park 0 0 1;loan 1 1 9".repeat(5);

    private static final Check CHECK = new Check("edges of texts");
    private static final Edges EDGES = new Edges(CHECK);

    private TextEdgesTest() {
    }

    public static void main(String[] args) {
        newObject();
        newObjectRefuses();
        feedTillFull();
        feedHighestFirst();
        endBounds();
        tellLeaves();
        tellWhatStays();
        numbersOfThePipe();
        numbersOfPoints();
        numbersOfShippers();
        numbersOfNominations();
        numbersThatWrap();
        pointsOfNominations();
        toldAhead();
        lastOneCounts();
        tooManyPoints();
        tooManyShippers();
        tooManyNominations();
        textEnds();
        wordsThatAreNone();
        wordsWithAnotherLetter();
        bytesThatCannotStand();
        blanksAsOneLikes();
        firstWrongPlace();
        fourHundredBytes();
        CHECK.finish();
    }

    private static void due(String what, long got, long want) {
        CHECK.due(what, got, want);
    }

    private static void taken(String text, int points) {
        due("tell: " + text, Texts.tell(new GasNominations(), text), points);
    }

    private static GasNominations richWithoutTape() {
        GasNominations x = Pipes.rich();
        x.end(0);
        return x;
    }

    /** The fault, and that all but the tape is as it was. */
    private static void fault(String text, int place, int kind) {
        EDGES.start(TextEdgesTest::richWithoutTape);
        EDGES.still("tell: " + text, x -> Texts.tell(x, text), -2 - (8 * place + kind));
    }

    // ---- promise 1

    private static void newObject() {
        GasNominations x = new GasNominations();
        for (int what = 0; what <= 7; what++) {
            due("new: count " + what, x.count(what), 0);
        }
        due("new: letter", x.letter(NONE), 0);
        due("new: the first letter", x.letter(0), -2);
        due("new: letter below NONE", x.letter(-2), NONE);
    }

    /** Without a PIPE every call that wants one is refused, and no PIPE comes of it. */
    private static void newObjectRefuses() {
        EDGES.start(GasNominations::new);
        EDGES.still("new: nominate", x -> x.nominate(0, 0, 1, 1), NONE);
        EDGES.still("new: renominate", x -> x.renominate(0, 1), NONE);
        EDGES.still("new: withdraw", x -> x.withdraw(0), NONE);
        EDGES.still("new: limit of a point", x -> x.limit(0, 0, 1), NONE);
        EDGES.still("new: limit of a segment", x -> x.limit(1, 0, 1), NONE);
        EDGES.still("new: swing", x -> x.swing(0, 1), -100);
        EDGES.still("new: swing of 0", x -> x.swing(0, 0), -100);
        EDGES.still("new: contract", x -> x.contract(0, 0, 1), NONE);
        EDGES.still("new: trade", x -> x.trade(0, 1, 1), NONE);
        EDGES.still("new: move", x -> x.move(0, 0), NONE);
        EDGES.still("new: lend", x -> x.lend(0, 1, 1), NONE);
        EDGES.still("new: store", x -> x.store(0, 1), NONE);
        EDGES.still("new: day", x -> x.day(), NONE);
        EDGES.still("new: close", x -> x.close(), NONE);
        EDGES.still("new: undo", x -> x.undo(), NONE);
        EDGES.still("new: back", x -> x.back(0), -2);
        EDGES.still("new: back", x -> x.back(1), -2);
        EDGES.still("new: tell", x -> x.tell(), -2 - CANNOT_STAND);
    }

    // ---- promise 2

    private static GasNominations tapeOf(int bytes) {
        GasNominations x = Pipes.plain();
        for (int i = 0; i < bytes; i += 20) {
            x.feed(0x20202020, 0x20202020, 0x20202020, 0x20202020, 0x20202020);
        }
        x.end(bytes);
        return x;
    }

    private static void feedTillFull() {
        GasNominations x = new GasNominations();
        for (int bytes = 20; bytes <= 400; bytes += 20) {
            due("feed: " + bytes, x.feed(0, 0, 0, 0, 0), bytes);
        }
        for (int bytes = 381; bytes <= 400; bytes++) {
            int length = bytes;
            EDGES.start(() -> tapeOf(length));
            EDGES.still("feed: onto " + bytes, y -> y.feed(0, 0, 0, 0, 0), NONE);
        }
        for (int bytes = 379; bytes <= 380; bytes++) {
            int length = bytes;
            EDGES.start(() -> tapeOf(length));
            EDGES.acts("feed: onto " + bytes, y -> y.feed(0, 0, 0, 0, 0), length + 20);
        }
        GasNominations y = tapeOf(400);
        y.tell();
        due("feed: behind tell()", y.feed(0, 0, 0, 0, 0), 20);
        y = tapeOf(400);
        y.end(0);
        due("feed: behind end(0)", y.feed(0, 0, 0, 0, 0), 20);
    }

    private static void feedHighestFirst() {
        GasNominations x = new GasNominations();
        // "hubs 6;in 4 9;out 3 " and "8765;in 2 1" with blanks behind
        x.feed(0x68756273, 0x20363b69, 0x6e203420, 0x393b6f75, 0x74203320);
        x.feed(0x38373635, 0x3b696e20, 0x32203120, 0x20202020, 0x20202020);
        due("feed: three points", x.tell(), 3);
        due("feed: hubs", x.count(0), 6);
        due("feed: its cap over two calls", x.point(1, 2), 8765);
        // bytes above 127 are 128 to 255, not below 0
        due("feed: 255", new GasNominations().feed(-1, -1, -1, -1, -1), 20);
        GasNominations y = new GasNominations();
        y.feed(0x68756273, 0xb2323232, 0, 0, 0);
        due("feed: a byte of 178", y.tell(), -2 - (8 * 4 + CANNOT_STAND));
    }

    // ---- promise 3

    private static void endBounds() {
        EDGES.start(GasNominations::new);
        EDGES.still("end: 0 of an empty tape", x -> x.end(0), 0);
        EDGES.refusesOutside("end: of an empty tape", 0, 0, (x, n) -> x.end(n), NONE);
        EDGES.start(Pipes::rich);
        EDGES.acts("end: 0", x -> x.end(0), 0);
        EDGES.acts("end: all but one", x -> x.end(20), 20);
        EDGES.still("end: all", x -> x.end(21), 21);
        EDGES.refusesOutside("end: of 21", 0, 21, (x, n) -> x.end(n), NONE);
        EDGES.start(() -> tapeOf(400));
        EDGES.still("end: 400", x -> x.end(400), 400);
        EDGES.refusesOutside("end: of 400", 0, 400, (x, n) -> x.end(n), NONE);
        GasNominations y = tapeOf(40);
        due("end: 20 of 40", y.end(20), 20);
        due("end: the others are gone", y.end(21), NONE);
        due("end: the first ones are there", y.end(20), 20);
        due("end: new ones come behind", y.feed(0, 0, 0, 0, 0), 40);
    }

    // ---- promise 4

    private static void tellLeaves() {
        GasNominations x = Pipes.rich();
        due("tell: how many points", x.tell(), 2);
        due("tell: the tape is empty", x.count(6), 0);
        due("tell: day 0", x.count(4), 0);
        due("tell: nothing can be undone", x.count(5), 0);
        due("tell: nothing can be undone", x.undo(), NONE);
        due("tell: shelves stay", x.count(7), 2);
        due("tell: what is kept stays", x.back(1), 4);
        due("tell: what is kept stays", x.nomination(0, 3), 61);
        GasNominations y = Pipes.rich();
        y.tell();
        due("tell: no shipper", y.count(2), 0);
        due("tell: no nomination", y.count(3), 0);
        due("tell: received", y.total(0), 0);
        due("tell: swing 0", y.point(0, 3), 100);
        due("tell: price 0", y.price(0), 0);
        due("tell: fine 0", y.price(1), 0);
        due("tell: cap 9999", y.segment(0, 0), 9999);
        due("tell: fuel 0", y.segment(0, 1), 0);
        due("tell: the empty tape is none", y.tell(), -3);
    }

    private static void tellWhatStays() {
        GasNominations x = Pipes.booked();
        // the same text once more: balances, what is parked, the log begin anew
        due("tell: once more", Texts.tell(x, Pipes.TEXT), 4);
        due("tell: balance 0", x.shipper(1, 4), 0);
        due("tell: parked 0", x.shipper(0, 5), 0);
        due("tell: owes 0", x.shipper(1, 6), 0);
        due("tell: no log", x.log(0, 0), -2000000000);
        GasNominations y = Pipes.rich();
        y.end(4);
        due("tell: a fault", y.tell(), -2 - (8 * 4 + CANNOT_STAND));
        due("tell: a fault empties the tape", y.count(6), 0);
        due("tell: a fault leaves the acts", y.undo(), 4);
        due("tell: a pipe without points", Texts.tell(new GasNominations(), "hubs 2"), 0);
        due("tell: ten points", Texts.tell(new GasNominations(), TEN_POINTS), 10);
        GasNominations z = new GasNominations();
        Texts.tell(z, "hubs 2;in 0 1;in 5 1");
        due("tell: nothing of a text with a fault", z.count(0), 0);
        due("tell: nothing of a text with a fault", z.count(1), 0);
    }

    // ---- numbers

    /** A number from least to most stands between; what is read back is it. */
    private static void number(String before, int least, int most, String behind, ToLongFunction<GasNominations> back) {
        for (int n : new int[] {least, most}) {
            String text = before + n + behind;
            due("tell: " + text, back.applyAsLong(Texts.told(text)), n);
            due("tell: zeros ahead of " + n, back.applyAsLong(Texts.told(before + "000000000000" + n + behind)), n);
        }
        int place = before.length();
        fault(before + (most + 1) + behind, place, NOT_AS_TOLD);
        fault(before + "0" + (most + 1) + behind, place, NOT_AS_TOLD);
        if (least > 0) {
            fault(before + (least - 1) + behind, place, NOT_AS_TOLD);
        }
        fault(before + "-" + least + behind, place, CANNOT_STAND);
        fault(before + "+" + least + behind, place, CANNOT_STAND);
    }

    private static void numbersOfThePipe() {
        number("hubs ", 2, 8, "", x -> x.count(0));
        number("hubs ", 2, 8, ";price 1 1", x -> x.count(0));
        fault("hubs 0", 5, NOT_AS_TOLD);
        fault("hubs 10", 5, NOT_AS_TOLD);
        number("hubs 2;segment 0 ", 0, 9999, " 7", x -> x.segment(0, 0));
        number("hubs 2;segment 0 7 ", 0, 50, "", x -> x.segment(0, 1));
        number("hubs 2;price ", 0, 999, " 7", x -> x.price(0));
        number("hubs 2;price 7 ", 0, 100, "", x -> x.price(1));
        // which segments there are hangs on the hubs
        due("tell: segment 0 of 2 hubs", Texts.told("hubs 2;segment 0 3 4").segment(0, 0), 3);
        fault("hubs 2;segment 1 3 4", 15, NOT_AS_TOLD);
        due("tell: segment 1 of 3 hubs", Texts.told("hubs 3;segment 1 3 4").segment(1, 0), 3);
        fault("hubs 3;segment 2 3 4", 15, NOT_AS_TOLD);
        due("tell: segment 6 of 8 hubs", Texts.told("hubs 8;segment 6 3 4").segment(6, 1), 4);
        fault("hubs 8;segment 7 3 4", 15, NOT_AS_TOLD);
    }

    private static void numbersOfPoints() {
        number("hubs 2;in ", 0, 1, " 5", x -> x.point(0, 0));
        number("hubs 2;out ", 0, 1, " 5", x -> x.point(0, 0));
        number("hubs 8;in ", 0, 7, " 5", x -> x.point(0, 0));
        number("hubs 8;out ", 0, 7, " 5", x -> x.point(0, 0));
        number("hubs 2;in 1 ", 0, 9999, "", x -> x.point(0, 2));
        number("hubs 2;out 1 ", 0, 9999, ";price 1 1", x -> x.point(0, 2));
    }

    private static void numbersOfShippers() {
        number("hubs 2;shipper ", 0, 9999, " 1 2 3", x -> x.shipper(0, 0));
        number("hubs 2;shipper 1 ", 1, 9, " 2 3", x -> x.shipper(0, 1));
        number("hubs 2;shipper 1 2 ", 0, 9999, " 3", x -> x.shipper(0, 2));
        number("hubs 2;shipper 1 2 3 ", 0, 9999, "", x -> x.shipper(0, 3));
    }

    private static void numbersOfNominations() {
        number(AHEAD + "nom ", 0, 1, " 0 1 5", x -> x.nomination(0, 0));
        number(AHEAD + "park ", 0, 1, " 0 5", x -> x.nomination(0, 0));
        number(AHEAD + "loan ", 0, 1, " 1 5", x -> x.nomination(0, 0));
        number(AHEAD + "nom 0 0 1 ", 0, 9999, "", x -> x.nomination(0, 3));
        number(AHEAD + "park 0 0 ", 0, 9999, "", x -> x.nomination(0, 3));
        number(AHEAD + "loan 0 1 ", 0, 9999, "", x -> x.nomination(0, 3));
    }

    /** Numbers that would fit if they were cut to 32 or 64 bits. */
    private static void numbersThatWrap() {
        fault("hubs 4294967298", 5, NOT_AS_TOLD);
        fault("hubs 2147483650", 5, NOT_AS_TOLD);
        fault("hubs 18446744073709551618", 5, NOT_AS_TOLD);
        fault("hubs 1000002", 5, NOT_AS_TOLD);
        fault("hubs " + "9".repeat(395), 5, NOT_AS_TOLD);
        fault("hubs 2;segment 4294967296 1 1", 15, NOT_AS_TOLD);
        fault("hubs 2;in 0 4294967297", 12, NOT_AS_TOLD);
        fault("hubs 2;shipper 0 18446744073709551617 0 0", 17, NOT_AS_TOLD);
        fault("hubs 2;price 1 4294967296", 15, NOT_AS_TOLD);
    }

    /** Of points 0 to 3 the even ones are IN, the odd ones OUT. */
    private static void pointsOfNominations() {
        int at = AHEAD.length();
        for (int point = 0; point <= 5; point++) {
            boolean in = point == 0 || point == 2;
            boolean out = point == 1 || point == 3;
            nominationWith("nom 0 ", point, " 1 5", in, 1);
            nominationWith("nom 0 0 ", point, " 5", out, 2);
            nominationWith("park 0 ", point, " 5", in, 1);
            nominationWith("loan 0 ", point, " 5", out, 2);
        }
        fault(AHEAD + "nom 0 4294967296 1 5", at + 6, NOT_AS_TOLD);
        // a shipper that is none stands ahead of the points, these ahead of n
        fault(AHEAD + "nom 2 1 0 10000", at + 4, NOT_AS_TOLD);
        fault(AHEAD + "nom 1 1 0 10000", at + 6, NOT_AS_TOLD);
        fault(AHEAD + "nom 1 0 0 10000", at + 8, NOT_AS_TOLD);
        fault(AHEAD + "nom 1 0 1 10000", at + 10, NOT_AS_TOLD);
    }

    private static void nominationWith(String before, int point, String behind, boolean fits, int what) {
        String text = AHEAD + before + point + behind;
        if (fits) {
            due("tell: " + text, Texts.told(text).nomination(0, what), point);
        } else {
            fault(text, AHEAD.length() + before.length(), NOT_AS_TOLD);
        }
    }

    /** What a nomination names must stand ahead of it. */
    private static void toldAhead() {
        fault("hubs 2;nom 0 0 1 5;in 0 1;out 0 1;shipper 0 1 0 0", 11, NOT_AS_TOLD);
        fault("hubs 2;shipper 0 1 0 0;nom 0 0 1 5;in 0 1;out 0 1", 29, NOT_AS_TOLD);
        fault("hubs 2;shipper 0 1 0 0;in 0 1;nom 0 0 1 5;out 0 1", 38, NOT_AS_TOLD);
        fault("hubs 2;in 0 1;out 0 1;park 0 0 5;shipper 0 1 0 0", 27, NOT_AS_TOLD);
        fault("hubs 2;in 0 1;shipper 0 1 0 0;loan 0 1 5;out 0 1", 37, NOT_AS_TOLD);
        taken("hubs 2;shipper 0 1 0 0;in 0 1;park 0 0 5;out 0 1;loan 0 1 5;nom 0 0 1 5", 2);
        GasNominations x = Texts.told("hubs 2;out 0 1;shipper 0 1 0 0;loan 0 0 5;in 0 1;shipper 0 1 0 0;nom 1 1 0 0");
        due("tell: parts in any order", x.nomination(1, 0), 1);
    }

    private static void lastOneCounts() {
        GasNominations x = Texts.told("hubs 3;segment 1 5 6;price 8 9;segment 1 7 0;segment 0 1 2;price 0 3");
        due("tell: the last segment", x.segment(1, 0), 7);
        due("tell: the last fuel", x.segment(1, 1), 0);
        due("tell: the other segment", x.segment(0, 1), 2);
        due("tell: the last price", x.price(0), 0);
        due("tell: the last fine", x.price(1), 3);
        GasNominations y = Texts.told("hubs 3" + ";segment 1 5 6".repeat(25) + ";segment 1 9999 1");
        due("tell: as many segments as one likes", y.segment(1, 0), 9999);
        due("tell: of the others cap 9999", y.segment(0, 0), 9999);
        due("tell: of the others fuel 0", y.segment(0, 1), 0);
        due("tell: price without", y.price(0), 0);
        due("tell: fine without", y.price(1), 0);
        due("tell: as many prices", Texts.told("hubs 3" + ";price 5 6".repeat(30) + ";price 1 2").price(0), 1);
        // a fault in one that would not count is a fault
        fault("hubs 3;price 1000 0;price 0 0", 13, NOT_AS_TOLD);
    }

    // ---- too many

    private static void tooManyPoints() {
        taken(TEN_POINTS, 10);
        int at = TEN_POINTS.length() + 1;
        fault(TEN_POINTS + ";in 0 1", at, TOO_MANY);
        fault(TEN_POINTS + ";out 0 1", at, TOO_MANY);
        fault(TEN_POINTS + ";in", at, TOO_MANY);
        fault(TEN_POINTS + ";out x", at, TOO_MANY);
        fault(TEN_POINTS + ";in 2 10000", at, TOO_MANY);
        fault(TEN_POINTS + ";  out 0 1", at + 2, TOO_MANY);
        // such a word is none of a point
        fault(TEN_POINTS + ";inn 0 1", at, CANNOT_STAND);
        fault(TEN_POINTS + ";ou 0 1", at, CANNOT_STAND);
        fault("hubs 2" + ";in 0 1".repeat(11), 6 + 70 + 1, TOO_MANY);
        fault("hubs 2" + ";out 0 1".repeat(11), 6 + 80 + 1, TOO_MANY);
        fault("hubs 2" + ";in 0 1".repeat(9) + ";in 2 1;in 0 1", 6 + 63 + 4, NOT_AS_TOLD);
        taken(TEN_POINTS + ";shipper 0 1 0 0;price 1 2;segment 0 1 2", 10);
    }

    private static void tooManyShippers() {
        due("tell: six shippers", Texts.told(SIX_SHIPPERS).count(2), 6);
        int at = SIX_SHIPPERS.length() + 1;
        fault(SIX_SHIPPERS + ";shipper 0 1 0 0", at, TOO_MANY);
        fault(SIX_SHIPPERS + ";shipper", at, TOO_MANY);
        fault(SIX_SHIPPERS + ";shipper 10000", at, TOO_MANY);
        fault(SIX_SHIPPERS + ";shippers 0 1 0 0", at, CANNOT_STAND);
        taken(SIX_SHIPPERS + ";in 0 1", 1);
    }

    private static void tooManyNominations() {
        due("tell: sixteen nominations", Texts.told(SIXTEEN).count(3), 16);
        due("tell: the sixteenth", Texts.told(SIXTEEN).nomination(15, 3), 9);
        int at = SIXTEEN.length() + 1;
        for (String part : new String[] {"nom 0 0 1 1", "park 0 0 1", "loan 0 1 1", "nom", "park 9", "loan x", "nom 0 0 1 0"}) {
            fault(SIXTEEN + ";" + part, at, TOO_MANY);
        }
        fault(SIXTEEN + ";noms 0 0 1 1", at, CANNOT_STAND);
        fault("hubs 2;in 0 1;shipper 0 1 0 0" + ";park 0 0 1".repeat(17), 29 + 16 * 11 + 1, TOO_MANY);
        fault("hubs 2;out 0 1;shipper 0 1 0 0" + ";loan 0 0 1".repeat(17), 30 + 16 * 11 + 1, TOO_MANY);
        taken(SIXTEEN + ";price 1 1", 4);
    }

    // ---- places that are wrong

    /** The text ends there, where something must follow: the place behind its last byte. */
    private static void ends(String text) {
        fault(text, text.length(), CANNOT_STAND);
        fault(text + "   ", text.length() + 3, CANNOT_STAND);
    }

    private static void textEnds() {
        ends("");
        ends("hubs");
        ends("hubs 2;");
        ends("hubs 2;price 1 1;");
        String[] parts = {"segment 0 1 1", "in 0 1", "out 0 1", "shipper 0 1 0 0", "nom 0 0 1 1", "park 0 0 1",
            "loan 0 1 1", "price 1 1"};
        for (String part : parts) {
            taken(AHEAD + part, part.startsWith("in") || part.startsWith("out") ? 5 : 4);
            for (int blank = part.indexOf(' '); blank >= 0; blank = part.indexOf(' ', blank + 1)) {
                ends(AHEAD + part.substring(0, blank));
            }
            ends(AHEAD + part + ";");
        }
    }

    private static void wordsThatAreNone() {
        for (String word : new String[] {"h", "hub", "hubss", "in", "segment", "x"}) {
            fault(word + " 2", 0, CANNOT_STAND);
            fault("  " + word, 2, CANNOT_STAND);
        }
        for (String word : new String[] {"hubs", "segmen", "segments", "i", "inn", "ou", "outs", "shippe", "shippers",
            "no", "noms", "par", "parks", "loa", "loans", "pric", "prices", "a", "z", "inout"}) {
            fault("hubs 2;" + word + " 0 1", 7, CANNOT_STAND);
            fault("hubs 2;in 0 1; " + word, 15, CANNOT_STAND);
        }
        // a word is small letters as far as they go on: a blank parts it, a capital ends it
        fault("hu bs 2", 0, CANNOT_STAND);
        fault("hubS 2", 0, CANNOT_STAND);
        fault("hubs 2;i n 0 1", 7, CANNOT_STAND);
        fault("hubs 2;In 0 1", 7, CANNOT_STAND);
        fault("hubs 2;iN 0 1", 7, CANNOT_STAND);
        fault("hubs 2;in0x 1", 10, CANNOT_STAND);
    }

    /** Each letter of each word counts, the first and the last one too, and no letter may follow. */
    private static void wordsWithAnotherLetter() {
        String[] words = {"segment", "in", "out", "shipper", "nom", "park", "loan", "price"};
        for (String word : words) {
            for (int i = 0; i < word.length(); i++) {
                String other = word.substring(0, i) + 'q' + word.substring(i + 1);
                fault(AHEAD + other + " 0 1 1 1", AHEAD.length(), CANNOT_STAND);
            }
            fault(AHEAD + word + "a 0 1 1 1", AHEAD.length(), CANNOT_STAND);
            fault(AHEAD + word + "z 0 1 1 1", AHEAD.length(), CANNOT_STAND);
            fault(AHEAD + "a" + word + " 0 1 1 1", AHEAD.length(), CANNOT_STAND);
        }
        for (String word : new String[] {"qubs", "hqbs", "huqs", "hubq", "hubsa", "hubsz"}) {
            fault(word + " 2", 0, CANNOT_STAND);
        }
    }

    /** Bytes beside the small letters, the digits, the blank and the mark; and the farthest. */
    private static final int[] BYTES = {0, 9, 10, 13, 31, 33, 47, 58, 60, 64, 65, 90, 96, 123, 127, 128, 160, 178, 187, 255};

    private static void bytesThatCannotStand() {
        for (int sign : BYTES) {
            char c = (char) sign;
            fault(c + "hubs 2", 0, CANNOT_STAND);
            fault("hubs" + c + "2", 4, CANNOT_STAND);
            fault("hubs " + c + "2", 5, CANNOT_STAND);
            fault("hubs 2" + c, 6, CANNOT_STAND);
            fault("hubs 2" + c + "in 0 1", 6, CANNOT_STAND);
            fault("hubs 2;" + c + "in 0 1", 7, CANNOT_STAND);
            fault("hubs 2;in" + c + "0 1", 9, CANNOT_STAND);
            fault("hubs 2;in 0" + c + "1", 11, CANNOT_STAND);
            fault("hubs 2;in 0 1" + c + ";in 0 1", 13, CANNOT_STAND);
        }
        // a mark where a word or a number must stand, a letter or a digit where a mark must stand
        fault(";hubs 2", 0, CANNOT_STAND);
        fault("hubs;2", 4, CANNOT_STAND);
        fault("hubs 2;;in 0 1", 7, CANNOT_STAND);
        fault("hubs 2;in;0 1", 9, CANNOT_STAND);
        fault("hubs 2;in 0;1", 11, CANNOT_STAND);
        fault("hubs 2in 0 1", 6, CANNOT_STAND);
        fault("hubs 2 2", 7, CANNOT_STAND);
        fault("hubs 2;in 0 1 1", 14, CANNOT_STAND);
        fault("hubs 2;in 0 1a", 13, CANNOT_STAND);
        fault("hubs 2;in 0 1;9", 14, CANNOT_STAND);
        fault("2", 0, CANNOT_STAND);
    }

    private static void blanksAsOneLikes() {
        taken("hubs2;in0 1", 1);
        taken("   hubs   2   ;   in   0   1   ", 1);
        taken("hubs 2 ;segment0 1 1;out1 9 ;price1 1 ", 1);
        // digits go on: without a blank two numbers are one
        fault("hubs 2;in 01", 12, CANNOT_STAND);
        fault("hubs 22;in 0 1", 5, NOT_AS_TOLD);
        fault("hubs 2;segment 0 1 5 1", 21, CANNOT_STAND);
        fault("hubs 2;segment 0 151", 20, CANNOT_STAND);
    }

    private static void firstWrongPlace() {
        fault("hubs 9;in 9 10000;x", 5, NOT_AS_TOLD);
        fault("hubs 8;in 9 10000;x", 10, NOT_AS_TOLD);
        fault("hubs 8;in 7 10000;x", 12, NOT_AS_TOLD);
        fault("hubs 8;in 7 9999;x", 17, CANNOT_STAND);
        fault("hubs 9x", 5, NOT_AS_TOLD);
        fault("hubs 9", 5, NOT_AS_TOLD);
        fault("hub 9", 0, CANNOT_STAND);
        fault("x", 0, CANNOT_STAND);
        fault("hubs x;y", 5, CANNOT_STAND);
        fault("hubs 2;shipper 0 0", 17, NOT_AS_TOLD);
        fault("hubs 2;shipper 0 1", 18, CANNOT_STAND);
    }

    // ---- 400 bytes

    private static String filled(String before, String behind) {
        return before + " ".repeat(400 - before.length() - behind.length()) + behind;
    }

    private static void fourHundredBytes() {
        taken(filled("hubs 2", ";in 0 1"), 1);
        taken(filled("", "hubs 2"), 0);
        taken(filled("hubs 2", ""), 0);
        taken("hubs " + "0".repeat(394) + "2", 0);
        due("tell: the 400th byte", Texts.told(filled("hubs 2;in 0", "17")).point(0, 2), 17);
        fault(filled("hubs 2", ";"), 400, CANNOT_STAND);
        fault(filled("hubs 2", "x"), 399, CANNOT_STAND);
        fault(filled("", ""), 400, CANNOT_STAND);
        fault(filled("", "hubs"), 400, CANNOT_STAND);
        fault(filled("hubs 2;in 0", "10000"), 395, NOT_AS_TOLD);
    }
}
