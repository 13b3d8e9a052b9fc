/** Pipes that several tests start from. */
final class Pipes {
    /** Scheduled: 50 (firm; the rest is cut on segment 0), 50 (cut there), 30 (cut by the limit), 10. */
    static final String TEXT = "hubs 3;segment 0 100 50;segment 1 80 20;in 0 200;in 2 90;out 1 70;out 2 60;"
        + "shipper 50 2 10 30;shipper 0 1 5 40;nom 0 0 3 60;nom 1 0 2 70;park 0 1 40;loan 1 3 10;price 3 10";

    private static final int MOST = 9999;

    private Pipes() {
    }

    static GasNominations plain() {
        return Texts.told(TEXT);
    }

    static GasNominations swung() {
        GasNominations x = plain();
        x.swing(0, 10);
        x.swing(1, -7);
        x.swing(2, -99);
        x.swing(3, 25);
        return x;
    }

    /** Behind one day: balances -10 and 51, parked 30 and -10. */
    static GasNominations booked() {
        GasNominations x = swung();
        x.day();
        return x;
    }

    /** Booked, with something on the tape and on a shelf too, so that all of it could be lost: five acts. */
    static GasNominations rich() {
        GasNominations x = plain();
        x.renominate(0, 61);
        x.keep(1);
        x.undo();
        x.swing(0, 10);
        x.swing(1, -7);
        x.swing(2, -99);
        x.swing(3, 25);
        x.day();
        Texts.put(x, "hubs 4;in 3 7;out 1 5");
        return x;
    }

    /** As many of all as there can be, but for one nomination. */
    static GasNominations nearlyFull() {
        GasNominations x = Texts.told("hubs 8" + ";in 7 9999;out 0 9999".repeat(5)
            + ";shipper 0 1 0 9999".repeat(5) + ";shipper 9999 9 9999 9999;price 999 100");
        for (int i = 0; i < 15; i++) {
            x.nominate(i % 6, i % 5 * 2, 9, 100 + i);
        }
        return x;
    }

    static GasNominations full() {
        GasNominations x = nearlyFull();
        x.nominate(5, 8, 1, MOST);
        return x;
    }

    /** Balances 19798 and -19798, parked 9999 and 0, limits 9999. */
    static GasNominations large() {
        GasNominations x = Texts.told("hubs 2;in 0 9999;in 0 9999;in 1 9999;out 0 9999;out 0 9999"
            + ";shipper 0 1 0 9999;shipper 0 1 0 9999;nom 0 0 3 9999;nom 1 1 4 9999;park 0 2 9999");
        x.swing(0, 99);
        x.swing(4, 99);
        x.day();
        x.day();
        return x;
    }
}
