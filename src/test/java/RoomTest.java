import com.sun.management.ThreadMXBean;
import java.lang.management.ManagementFactory;

/** All calls of a run live in one room: an object makes its rows once and no call makes more. */
public final class RoomTest {
    private static final long MOST_FOR_OBJECT = 100_000;
    private static final long MOST_FOR_CALLS = 10_000;

    private RoomTest() {
    }

    public static void main(String[] args) {
        Check check = new Check("room");
        ThreadMXBean threads = (ThreadMXBean) ManagementFactory.getThreadMXBean();
        calls(made());
        long start = threads.getCurrentThreadAllocatedBytes();
        GasNominations x = new GasNominations();
        long object = threads.getCurrentThreadAllocatedBytes() - start;
        x = made();
        start = threads.getCurrentThreadAllocatedBytes();
        long sum = calls(x);
        long calls = threads.getCurrentThreadAllocatedBytes() - start;
        System.out.println("room: " + object + " bytes for an object, " + calls + " for its calls (" + sum + ")");
        check.isTrue("bytes for an object: " + object, object < MOST_FOR_OBJECT);
        check.isTrue("bytes for its calls: " + calls, calls < MOST_FOR_CALLS);
        check.finish();
    }

    private static GasNominations made() {
        return Texts.told("hubs 5;segment 1 90 7;segment 3 70 50;in 0 150;in 3 99;out 4 80;out 1 60;"
            + "shipper 30 2 5 900;shipper 10 1 9 900;nom 0 0 2 60;nom 1 0 3 70;park 0 1 40;loan 1 3 10;"
            + "nom 1 1 3 44;price 3 10");
    }

    private static long calls(GasNominations x) {
        long sum = 0;
        for (int i = 0; i < 16; i++) {
            sum += x.feed(i, i, i, i, i) + x.end(0) + x.swing(0, i - 8) + x.swing(3, 8 - i) + x.limit(1, 3, 70 + i);
            sum += x.nominate(0, 0, 2, i + 1) + x.day() + x.close() + x.contract(0, 0, 40 + i) + x.move(0, i % 5);
            sum += x.keep(0) + x.point(0, 4) + x.segment(1, 2) + x.shipper(0, 4) + x.nomination(0, 3) + x.plan(0, 2);
            sum += x.cause(0) + x.tight(0) + x.flow(1, true) + x.leaves(0, 4, 999) + x.needs(0, 4, 99) + x.gain(0);
            sum += x.widen(1, 1, i) + x.ahead(0, 99) + x.first(0) + x.log(0, 0) + x.fair(0) + x.nearest(2, 50, 1);
            sum += x.order(1) + x.blame(200) + x.alone(0) + x.worst() + x.net(-1, 2) + x.cash(0, 1) + x.part(-1);
            sum += x.total(4) + x.price(0) + x.letter(i) + x.count(5) + x.more(1, 1, 3, 9) + x.withdraw(5) + x.undo();
            sum += x.renominate(0, 50 + i) + x.trade(0, 1, 1) + x.lend(0, 1, 1) + x.store(0, 1) + x.tell();
        }
        return sum + x.back(0);
    }
}
