import java.util.Arrays;

/**
 * A gas pipe with its nominations, their schedule, the days on it and the books of its shippers.
 * The words in capitals are those of the document, ../shared/DOC.md.
 */
public final class GasNominations {
    public static final int NONE = -1;

    private static final int REFUSED = -2;
    private static final int BEYOND = -3;
    private static final int NO_NUMBER = -2000000000;
    private static final int NO_SWING = -100;
    private static final int SAME_SWING = -101;

    private static final int MOST_BYTES = 400;
    private static final int LEAST_HUBS = 2;
    private static final int MOST_HUBS = 8;
    private static final int MOST_SEGMENTS = MOST_HUBS - 1;
    private static final int MOST_POINTS = 10;
    private static final int MOST_SHIPPERS = 6;
    private static final int MOST_NOMINATIONS = 16;
    private static final int MOST_UNDONE = 10;
    private static final int MOST_SHELVES = 2;
    private static final int MOST_LOGGED = 8;

    private static final int MOST = 9999;
    private static final int MOST_OVER_SEGMENTS = 99999;
    private static final int MOST_SWING = 99;
    private static final int MOST_FUEL = 50;
    private static final int MOST_RANK = 9;
    private static final int MOST_PRICE = 999;
    private static final int MOST_FINE = 100;
    private static final int MOST_DAYS = 999;
    private static final int MOST_AHEAD = 99;
    private static final int MOST_BALANCE = 999999;

    private static final int PERCENT = 100;
    private static final int THOUSANDTHS = 1000;
    private static final int SIGNED = 100000;

    private static final int OF_POINT = 0;
    private static final int OF_SEGMENT = 1;

    private static final int SEGMENT_CAP = 0;
    private static final int SEGMENT_FUEL = 1;
    private static final int SEGMENT_COLUMNS = 2;

    private static final int POINT_HUB = 0;
    private static final int POINT_IN = 1;
    private static final int POINT_CAP = 2;
    private static final int POINT_SWING = 3;
    private static final int POINT_COLUMNS = 4;

    private static final int FIRM = 0;
    private static final int RANK = 1;
    private static final int TOLERANCE = 2;
    private static final int LIMIT = 3;
    private static final int BALANCE = 4;
    private static final int PARKED = 5;
    private static final int OWES = 6;
    private static final int SHIPPER_COLUMNS = 6;

    private static final int SHIPPER = 0;
    private static final int FROM = 1;
    private static final int TO = 2;
    private static final int MUCH = 3;
    private static final int NOMINATION_COLUMNS = 4;

    private static final int RECEIVED = 0;
    private static final int TAKEN = 1;
    private static final int FUEL = 2;
    private static final int CASHED = 3;
    private static final int TOTALS = 4;

    private final Pipe pipe = new Pipe();
    private final Pipe trial = new Pipe();
    private final Schedule schedule = new Schedule();
    private final History history = new History();
    private final Pipe[] shelves = {new Pipe(), new Pipe()};
    private int keptBits = 0;
    private final Reader reader = new Reader();
    private final Writer writer = new Writer();
    private final Netting netting = new Netting();

    public GasNominations() {
    }

    public int feed(int a, int b, int c, int d, int e) {
        Tape tape = reader.tape;
        if (!tape.hasRoom()) {
            return NONE;
        }
        tape.append(a);
        tape.append(b);
        tape.append(c);
        tape.append(d);
        tape.append(e);
        return tape.length;
    }

    public int end(int n) {
        if (!within(n, 0, reader.tape.length)) {
            return NONE;
        }
        reader.tape.length = n;
        return n;
    }

    public int tell() {
        int fault = reader.read();
        reader.tape.length = 0;
        if (fault != Reader.NO_FAULT) {
            return REFUSED - fault;
        }
        pipe.become(reader.pipe);
        history.forget();
        return pipe.points.count;
    }

    public int nominate(int shipper, int from, int to, int n) {
        if (!pipe.allows(shipper, from, to, n)) {
            return NONE;
        }
        if (pipe.nominations.isFull()) {
            return REFUSED;
        }
        history.remember(pipe);
        return pipe.addNomination(shipper, from, to, n);
    }

    public int renominate(int nomination, int n) {
        if (!pipe.nominations.has(nomination) || !within(n, 0, MOST)) {
            return NONE;
        }
        int was = pipe.nominations.at(nomination, MUCH);
        if (was == n) {
            return REFUSED;
        }
        history.remember(pipe);
        pipe.nominations.put(nomination, MUCH, n);
        return was;
    }

    public int withdraw(int nomination) {
        if (!pipe.nominations.has(nomination)) {
            return NONE;
        }
        history.remember(pipe);
        pipe.nominations.drop(nomination);
        return pipe.nominations.count;
    }

    public int limit(int sort, int k, int cap) {
        if (!pipe.hasCap(sort, k) || !within(cap, 0, MOST)) {
            return NONE;
        }
        int was = pipe.capOf(sort, k);
        if (was == cap) {
            return REFUSED;
        }
        history.remember(pipe);
        pipe.putCap(sort, k, cap);
        return was;
    }

    public int swing(int point, int v) {
        if (!pipe.points.has(point) || !within(v, -MOST_SWING, MOST_SWING)) {
            return NO_SWING;
        }
        int was = pipe.points.at(point, POINT_SWING);
        if (was == v) {
            return SAME_SWING;
        }
        history.remember(pipe);
        pipe.points.put(point, POINT_SWING, v);
        return was;
    }

    public int contract(int shipper, int what, int n) {
        if (!pipe.shippers.has(shipper) || !isTerm(what, n)) {
            return NONE;
        }
        int was = pipe.shippers.at(shipper, what);
        if (was == n) {
            return REFUSED;
        }
        if (what == LIMIT && Math.abs(pipe.shippers.at(shipper, PARKED)) > n) {
            return BEYOND;
        }
        history.remember(pipe);
        pipe.shippers.put(shipper, what, n);
        return was;
    }

    public int trade(int shipper, int other, int n) {
        if (!canDeal(shipper, other, n)) {
            return NONE;
        }
        if (pipe.shippers.at(shipper, BALANCE) < n || pipe.shippers.at(other, BALANCE) > -n) {
            return REFUSED;
        }
        history.remember(pipe);
        pipe.shippers.raise(shipper, BALANCE, -n);
        pipe.shippers.raise(other, BALANCE, n);
        return 1;
    }

    public int move(int point, int hub) {
        if (!pipe.points.has(point) || !pipe.hasHub(hub)) {
            return NONE;
        }
        int was = pipe.points.at(point, POINT_HUB);
        if (was == hub) {
            return REFUSED;
        }
        history.remember(pipe);
        pipe.points.put(point, POINT_HUB, hub);
        return was;
    }

    public int lend(int shipper, int other, int n) {
        if (!canDeal(shipper, other, n)) {
            return NONE;
        }
        if (pipe.shippers.at(shipper, PARKED) < n) {
            return REFUSED;
        }
        if (!pipe.canPark(other, n)) {
            return BEYOND;
        }
        history.remember(pipe);
        pipe.shippers.raise(shipper, PARKED, -n);
        pipe.shippers.raise(other, PARKED, n);
        return 1;
    }

    public int store(int shipper, int n) {
        if (!pipe.shippers.has(shipper) || !within(n, 1, MOST)) {
            return NONE;
        }
        if (pipe.shippers.at(shipper, BALANCE) < n) {
            return REFUSED;
        }
        if (!pipe.canPark(shipper, n)) {
            return BEYOND;
        }
        history.remember(pipe);
        pipe.shippers.raise(shipper, BALANCE, -n);
        pipe.shippers.raise(shipper, PARKED, n);
        return 1;
    }

    public int day() {
        if (!pipe.isThere()) {
            return NONE;
        }
        if (pipe.day >= MOST_DAYS) {
            return REFUSED;
        }
        trial.become(pipe);
        passTrialDay(true);
        if (!trial.balancesFit()) {
            return BEYOND;
        }
        history.remember(pipe);
        pipe.become(trial);
        return schedule.inAll();
    }

    public int close() {
        if (!pipe.isThere()) {
            return NONE;
        }
        int cashed = pipe.howManyOver();
        if (cashed == 0) {
            return REFUSED;
        }
        history.remember(pipe);
        pipe.cashAll();
        return cashed;
    }

    public int undo() {
        if (history.depth == 0) {
            return NONE;
        }
        history.restore(pipe);
        return history.depth;
    }

    public int keep(int shelf) {
        if (!within(shelf, 0, MOST_SHELVES - 1)) {
            return NONE;
        }
        shelves[shelf].become(pipe);
        keptBits |= 1 << shelf;
        return pipe.points.count;
    }

    public int back(int shelf) {
        if (!within(shelf, 0, MOST_SHELVES - 1)) {
            return NONE;
        }
        if ((keptBits & 1 << shelf) == 0) {
            return REFUSED;
        }
        pipe.become(shelves[shelf]);
        history.forget();
        return pipe.points.count;
    }

    public int point(int point, int what) {
        if (!pipe.points.has(point)) {
            return NONE;
        }
        switch (what) {
            case 0:
            case 1:
            case 2:
                return pipe.points.at(point, what);
            case 3:
                return pipe.points.at(point, POINT_SWING) + PERCENT;
            case 4:
                schedule.make(pipe);
                return schedule.leftAtPoint(pipe, point);
            default:
                return NONE;
        }
    }

    public int segment(int segment, int what) {
        if (!pipe.segments.has(segment)) {
            return NONE;
        }
        switch (what) {
            case 0:
            case 1:
                return pipe.segments.at(segment, what);
            case 2:
                schedule.make(pipe);
                return schedule.leftUp(segment);
            case 3:
                schedule.make(pipe);
                return schedule.leftDown(segment);
            default:
                return NONE;
        }
    }

    public long shipper(int shipper, int what) {
        if (!pipe.shippers.has(shipper) || !within(what, FIRM, OWES)) {
            return NO_NUMBER;
        }
        if (what == OWES) {
            return pipe.owes[shipper];
        }
        return pipe.shippers.at(shipper, what);
    }

    public int nomination(int nomination, int what) {
        if (!pipe.nominations.has(nomination) || !within(what, SHIPPER, MUCH)) {
            return REFUSED;
        }
        return pipe.nominations.at(nomination, what);
    }

    public int plan(int nomination, int what) {
        if (!pipe.nominations.has(nomination)) {
            return NONE;
        }
        schedule.make(pipe);
        int scheduled = schedule.of(nomination);
        int delivered = pipe.delivered(nomination, scheduled);
        switch (what) {
            case 0:
                return scheduled;
            case 1:
                return schedule.firm[nomination];
            case 2:
                return delivered;
            case 3:
                return scheduled - delivered;
            case 4:
                return pipe.nominations.at(nomination, MUCH) - scheduled;
            default:
                return NONE;
        }
    }

    public int cause(int nomination) {
        if (!pipe.nominations.has(nomination)) {
            return NONE;
        }
        schedule.make(pipe);
        return schedule.cutAt[nomination];
    }

    public int tight(int k) {
        if (k < NONE || !pipe.isThere()) {
            return NONE;
        }
        schedule.make(pipe);
        return schedule.tightStop(pipe, k);
    }

    public int flow(int segment, boolean down) {
        if (!pipe.segments.has(segment)) {
            return NONE;
        }
        schedule.make(pipe);
        int left = down ? schedule.leftDown(segment) : schedule.leftUp(segment);
        return pipe.segments.at(segment, SEGMENT_CAP) - left;
    }

    public int leaves(int hub, int other, int n) {
        if (!isWay(hub, other) || !within(n, 0, MOST_OVER_SEGMENTS)) {
            return NONE;
        }
        return pipe.leftOver(hub, other, n);
    }

    public int needs(int hub, int other, int much) {
        if (!isWay(hub, other) || !within(much, 0, MOST_OVER_SEGMENTS)) {
            return NONE;
        }
        return pipe.leastFor(hub, other, much);
    }

    public int more(int shipper, int from, int to, int n) {
        if (!pipe.allows(shipper, from, to, n)) {
            return NONE;
        }
        if (pipe.nominations.isFull()) {
            return REFUSED;
        }
        trial.become(pipe);
        int last = trial.addNomination(shipper, from, to, n);
        schedule.make(trial);
        return schedule.of(last);
    }

    public int gain(int nomination) {
        if (!pipe.nominations.has(nomination)) {
            return NONE;
        }
        schedule.make(pipe);
        int others = schedule.inAll() - schedule.of(nomination);
        trial.become(pipe);
        trial.nominations.drop(nomination);
        schedule.make(trial);
        return schedule.inAll() - others + SIGNED;
    }

    public int widen(int sort, int k, int cap) {
        if (!pipe.hasCap(sort, k) || !within(cap, 0, MOST)) {
            return NONE;
        }
        schedule.make(pipe);
        int now = schedule.inAll();
        trial.become(pipe);
        trial.putCap(sort, k, cap);
        schedule.make(trial);
        return schedule.inAll() - now + SIGNED;
    }

    public long ahead(int shipper, int n) {
        if (!pipe.shippers.has(shipper) || !within(n, 0, MOST_AHEAD)) {
            return NO_NUMBER;
        }
        trial.become(pipe);
        boolean anew = true;
        for (int passed = 0; passed < n; passed++) {
            anew = passTrialDay(anew);
        }
        return trial.shippers.at(shipper, BALANCE);
    }

    public int first(int shipper) {
        if (!pipe.shippers.has(shipper)) {
            return NONE;
        }
        trial.become(pipe);
        boolean anew = true;
        for (int passed = 0; passed <= MOST_AHEAD; passed++) {
            if (trial.over(shipper) != 0) {
                return passed;
            }
            anew = passTrialDay(anew);
        }
        return REFUSED;
    }

    public int log(int i, int shipper) {
        if (!pipe.shippers.has(shipper) || !within(i, 0, pipe.logged() - 1)) {
            return NO_NUMBER;
        }
        return pipe.loggedBalance(i, shipper);
    }

    public int fair(int nomination) {
        if (!pipe.nominations.has(nomination)) {
            return NONE;
        }
        schedule.makeOfOneClass(pipe);
        return schedule.of(nomination);
    }

    public int nearest(int to, int much, int what) {
        if (!pipe.isOut(to) || !within(much, 0, MOST) || !within(what, 0, 1)) {
            return NONE;
        }
        int best = REFUSED;
        int least = REFUSED;
        for (int from = 0; from < pipe.points.count; from++) {
            if (!pipe.isIn(from)) {
                continue;
            }
            int n = pipe.leastFor(pipe.hubOf(from), pipe.hubOf(to), much);
            if (n >= 0 && (best < 0 || n < least)) {
                best = from;
                least = n;
            }
        }
        return what == 0 ? best : least;
    }

    public int order(int k) {
        if (!pipe.shippers.has(k)) {
            return NONE;
        }
        int place = 0;
        for (int rank = 1; rank <= MOST_RANK; rank++) {
            for (int i = 0; i < pipe.shippers.count; i++) {
                if (pipe.shippers.at(i, RANK) != rank) {
                    continue;
                }
                if (place == k) {
                    return i;
                }
                place++;
            }
        }
        return NONE;
    }

    public int blame(int stop) {
        if (!pipe.isThere()) {
            return NONE;
        }
        schedule.make(pipe);
        int bits = 0;
        for (int i = 0; i < pipe.nominations.count; i++) {
            if (schedule.cutAt[i] == stop) {
                bits |= 1 << i;
            }
        }
        return bits;
    }

    public int alone(int nomination) {
        if (!pipe.nominations.has(nomination)) {
            return NONE;
        }
        trial.become(pipe);
        for (int i = 0; i < trial.nominations.count; i++) {
            if (i != nomination) {
                trial.nominations.put(i, MUCH, 0);
            }
        }
        schedule.make(trial);
        return schedule.of(nomination);
    }

    public int worst() {
        if (!pipe.isThere()) {
            return NONE;
        }
        schedule.make(pipe);
        int worst = REFUSED;
        int least = THOUSANDTHS;
        for (int i = 0; i < pipe.shippers.count; i++) {
            if (pipe.nominatedBy(i) == 0) {
                continue;
            }
            int share = schedule.share(pipe, i);
            if (worst < 0 || share < least) {
                worst = i;
                least = share;
            }
        }
        return worst;
    }

    public int net(int k, int what) {
        if (k < NONE || !within(what, 0, 2) || (k == NONE && what == 1) || !pipe.isThere()) {
            return NONE;
        }
        netting.settle(pipe);
        if (k == NONE) {
            return what == 0 ? netting.trades : netting.together();
        }
        if (k >= netting.trades) {
            return REFUSED;
        }
        return netting.tradeAt(k, what);
    }

    public long cash(int shipper, int what) {
        if (!pipe.shippers.has(shipper) || !within(what, 0, 1)) {
            return NO_NUMBER;
        }
        return what == 0 ? pipe.over(shipper) : pipe.dueFor(shipper);
    }

    public int part(int shipper) {
        if (!pipe.isThere() || (shipper != NONE && !pipe.shippers.has(shipper))) {
            return NONE;
        }
        schedule.make(pipe);
        return schedule.share(pipe, shipper);
    }

    public long total(int what) {
        if (!pipe.isThere() || !within(what, 0, TOTALS)) {
            return NONE;
        }
        return what == TOTALS ? pipe.inBooks() : pipe.totals[what];
    }

    public int price(int what) {
        if (!pipe.isThere() || !within(what, 0, 1)) {
            return NONE;
        }
        return what == 0 ? pipe.price : pipe.fine;
    }

    public int letter(int k) {
        if (k < NONE) {
            return NONE;
        }
        writer.write(pipe);
        if (k == NONE) {
            return writer.text.length();
        }
        return k < writer.text.length() ? writer.text.charAt(k) : REFUSED;
    }

    public int count(int what) {
        switch (what) {
            case 0:
                return pipe.hubs;
            case 1:
                return pipe.points.count;
            case 2:
                return pipe.shippers.count;
            case 3:
                return pipe.nominations.count;
            case 4:
                return pipe.day;
            case 5:
                return history.depth;
            case 6:
                return reader.tape.length;
            case 7:
                return keptBits;
            default:
                return NONE;
        }
    }

    private static boolean within(int n, int least, int most) {
        return n >= least && n <= most;
    }

    private static boolean isTerm(int what, int n) {
        if (what == RANK) {
            return within(n, 1, MOST_RANK);
        }
        return within(what, FIRM, LIMIT) && within(n, 0, MOST);
    }

    private boolean canDeal(int shipper, int other, int n) {
        return pipe.shippers.has(shipper) && pipe.shippers.has(other) && shipper != other && within(n, 1, MOST);
    }

    private boolean isWay(int hub, int other) {
        return pipe.hasHub(hub) && pipe.hasHub(other);
    }

    /**
     * A DAY on the trial pipe. From one day to the next only PARKED can change the SCHEDULE,
     * so it answers whether the next day wants a new one.
     */
    private boolean passTrialDay(boolean anew) {
        if (anew) {
            schedule.make(trial);
        }
        return trial.passDay(schedule);
    }

    /** Rows of numbers that come behind each other; no row or column outside it is ever touched. */
    private static final class Table {
        private final int columns;
        private final int most;
        private final int[] cells;
        int count = 0;

        Table(int columns, int most) {
            this.columns = Math.max(columns, 0);
            this.most = Math.max(most, 0);
            this.cells = new int[this.columns * this.most];
        }

        boolean has(int row) {
            return row >= 0 && row < count;
        }

        boolean isFull() {
            return count >= most;
        }

        int at(int row, int column) {
            if (row < 0 || row >= count || column < 0 || column >= columns) {
                return NONE;
            }
            return cells[row * columns + column];
        }

        void put(int row, int column, int value) {
            if (row >= 0 && row < count && column >= 0 && column < columns) {
                cells[row * columns + column] = value;
            }
        }

        void raise(int row, int column, int by) {
            put(row, column, at(row, column) + by);
        }

        int add() {
            if (isFull()) {
                return NONE;
            }
            count++;
            for (int column = 0; column < columns; column++) {
                put(count - 1, column, 0);
            }
            return count - 1;
        }

        void drop(int row) {
            if (!has(row)) {
                return;
            }
            for (int later = row + 1; later < count; later++) {
                for (int column = 0; column < columns; column++) {
                    put(later - 1, column, at(later, column));
                }
            }
            count--;
        }

        void become(Table other) {
            count = Math.min(other.count, most);
            System.arraycopy(other.cells, 0, cells, 0, Math.min(other.cells.length, cells.length));
        }
    }

    /** All that a SHELF keeps and undo() brings back. */
    private static final class Pipe {
        int hubs = 0;
        int price = 0;
        int fine = 0;
        int day = 0;
        final Table segments = new Table(SEGMENT_COLUMNS, MOST_SEGMENTS);
        final Table points = new Table(POINT_COLUMNS, MOST_POINTS);
        final Table shippers = new Table(SHIPPER_COLUMNS, MOST_SHIPPERS);
        final Table nominations = new Table(NOMINATION_COLUMNS, MOST_NOMINATIONS);
        final long[] owes = new long[MOST_SHIPPERS];
        final long[] totals = new long[TOTALS];
        private final int[] balances = new int[MOST_LOGGED * MOST_SHIPPERS];

        void clear() {
            hubs = 0;
            price = 0;
            fine = 0;
            day = 0;
            segments.count = 0;
            points.count = 0;
            shippers.count = 0;
            nominations.count = 0;
            Arrays.fill(owes, 0L);
            Arrays.fill(totals, 0L);
            Arrays.fill(balances, 0);
        }

        void become(Pipe other) {
            hubs = other.hubs;
            price = other.price;
            fine = other.fine;
            day = other.day;
            segments.become(other.segments);
            points.become(other.points);
            shippers.become(other.shippers);
            nominations.become(other.nominations);
            System.arraycopy(other.owes, 0, owes, 0, MOST_SHIPPERS);
            System.arraycopy(other.totals, 0, totals, 0, TOTALS);
            System.arraycopy(other.balances, 0, balances, 0, MOST_LOGGED * MOST_SHIPPERS);
        }

        boolean isThere() {
            return hubs > 0;
        }

        boolean hasHub(int hub) {
            return hub >= 0 && hub < hubs;
        }

        boolean isIn(int point) {
            return points.has(point) && points.at(point, POINT_IN) == 1;
        }

        boolean isOut(int point) {
            return points.has(point) && points.at(point, POINT_IN) == 0;
        }

        int hubOf(int point) {
            return points.at(point, POINT_HUB);
        }

        boolean hasCap(int sort, int k) {
            return (sort == OF_POINT && points.has(k)) || (sort == OF_SEGMENT && segments.has(k));
        }

        int capOf(int sort, int k) {
            return sort == OF_POINT ? points.at(k, POINT_CAP) : segments.at(k, SEGMENT_CAP);
        }

        void putCap(int sort, int k, int cap) {
            if (sort == OF_POINT) {
                points.put(k, POINT_CAP, cap);
            } else {
                segments.put(k, SEGMENT_CAP, cap);
            }
        }

        boolean allows(int shipper, int from, int to, int n) {
            return shippers.has(shipper)
                && (from == NONE || isIn(from))
                && (to == NONE || isOut(to))
                && (from != NONE || to != NONE)
                && within(n, 1, MOST);
        }

        int addNomination(int shipper, int from, int to, int n) {
            int row = nominations.add();
            nominations.put(row, SHIPPER, shipper);
            nominations.put(row, FROM, from);
            nominations.put(row, TO, to);
            nominations.put(row, MUCH, n);
            return row;
        }

        int shipperOf(int nomination) {
            return nominations.at(nomination, SHIPPER);
        }

        boolean goesAlong(int nomination) {
            return nominations.at(nomination, FROM) != NONE && nominations.at(nomination, TO) != NONE;
        }

        int nominatedBy(int shipper) {
            int sum = 0;
            for (int i = 0; i < nominations.count; i++) {
                if (shipper == NONE || shipperOf(i) == shipper) {
                    sum += nominations.at(i, MUCH);
                }
            }
            return sum;
        }

        boolean canPark(int shipper, int n) {
            return shippers.at(shipper, PARKED) + n <= shippers.at(shipper, LIMIT);
        }

        int leftOver(int hub, int other, int n) {
            int left = n;
            for (int segment = hub; segment < other; segment++) {
                left -= left * segments.at(segment, SEGMENT_FUEL) / THOUSANDTHS;
            }
            for (int segment = hub - 1; segment >= other; segment--) {
                left -= left * segments.at(segment, SEGMENT_FUEL) / THOUSANDTHS;
            }
            return left;
        }

        /** What is left never falls as n grows, so the greatest n that is too little can be found by halves. */
        int leastFor(int hub, int other, int much) {
            int tooLittle = -1;
            for (int step = 1 << 16; step > 0; step >>= 1) {
                int n = tooLittle + step;
                if (n <= MOST_OVER_SEGMENTS && leftOver(hub, other, n) < much) {
                    tooLittle = n;
                }
            }
            return tooLittle < MOST_OVER_SEGMENTS ? tooLittle + 1 : REFUSED;
        }

        int delivered(int nomination, int scheduled) {
            if (!goesAlong(nomination)) {
                return scheduled;
            }
            int from = hubOf(nominations.at(nomination, FROM));
            int to = hubOf(nominations.at(nomination, TO));
            return leftOver(from, to, scheduled);
        }

        private int swung(int amount, int point) {
            return amount * (PERCENT + points.at(point, POINT_SWING)) / PERCENT;
        }

        /** Answers whether something PARKED or LENT has changed. */
        boolean passDay(Schedule schedule) {
            boolean parkedChanged = false;
            for (int i = 0; i < nominations.count; i++) {
                int scheduled = schedule.scheduled[i];
                bookNomination(i, scheduled);
                parkedChanged |= scheduled > 0 && !goesAlong(i);
            }
            System.arraycopy(balances, 0, balances, MOST_SHIPPERS, (MOST_LOGGED - 1) * MOST_SHIPPERS);
            for (int i = 0; i < shippers.count; i++) {
                balances[i] = shippers.at(i, BALANCE);
            }
            day++;
            return parkedChanged;
        }

        private void bookNomination(int nomination, int scheduled) {
            int shipper = shipperOf(nomination);
            int from = nominations.at(nomination, FROM);
            int to = nominations.at(nomination, TO);
            int delivered = delivered(nomination, scheduled);
            int received = from == NONE ? 0 : swung(scheduled, from);
            int taken = to == NONE ? 0 : swung(delivered, to);
            int fuel = scheduled - delivered;
            int parked = 0;
            if (to == NONE) {
                parked = scheduled;
            } else if (from == NONE) {
                parked = -scheduled;
            }
            shippers.raise(shipper, BALANCE, received - fuel - taken - parked);
            shippers.raise(shipper, PARKED, parked);
            totals[RECEIVED] += received;
            totals[TAKEN] += taken;
            totals[FUEL] += fuel;
        }

        int logged() {
            return Math.min(day, MOST_LOGGED);
        }

        int loggedBalance(int back, int shipper) {
            if (!within(back, 0, MOST_LOGGED - 1) || !within(shipper, 0, MOST_SHIPPERS - 1)) {
                return NO_NUMBER;
            }
            return balances[back * MOST_SHIPPERS + shipper];
        }

        boolean balancesFit() {
            for (int i = 0; i < shippers.count; i++) {
                if (Math.abs(shippers.at(i, BALANCE)) > MOST_BALANCE) {
                    return false;
                }
            }
            return true;
        }

        /** How far the BALANCE is beyond TOLERANCE, with its sign. */
        int over(int shipper) {
            int balance = shippers.at(shipper, BALANCE);
            int tolerance = shippers.at(shipper, TOLERANCE);
            if (balance > tolerance) {
                return balance - tolerance;
            }
            return balance < -tolerance ? balance + tolerance : 0;
        }

        /** What is added to OWES if the SHIPPER is CASHED. */
        long dueFor(int shipper) {
            long over = over(shipper);
            if (over < 0) {
                return -over * price * (PERCENT + fine) / PERCENT;
            }
            return -(over * price * (PERCENT - fine) / PERCENT);
        }

        int howManyOver() {
            int many = 0;
            for (int i = 0; i < shippers.count; i++) {
                if (over(i) != 0) {
                    many++;
                }
            }
            return many;
        }

        void cashAll() {
            for (int i = 0; i < shippers.count; i++) {
                int over = over(i);
                owes[i] += dueFor(i);
                totals[CASHED] += over;
                shippers.raise(i, BALANCE, -over);
            }
        }

        long inBooks() {
            long sum = 0;
            for (int i = 0; i < shippers.count; i++) {
                sum += shippers.at(i, BALANCE) + shippers.at(i, PARKED);
            }
            return sum;
        }
    }

    /** Who is cut where. The stops stand in one row, in the order in which parts go by them. */
    private static final class Schedule {
        private static final int IN_STOPS = 0;
        private static final int UP_STOPS = IN_STOPS + MOST_POINTS;
        private static final int DOWN_STOPS = UP_STOPS + MOST_SEGMENTS;
        private static final int OUT_STOPS = DOWN_STOPS + MOST_SEGMENTS;
        private static final int LIMIT_STOPS = OUT_STOPS + MOST_POINTS;
        private static final int STOPS = LIMIT_STOPS + 2 * MOST_SHIPPERS;

        private static final int CUT_IN = 100;
        private static final int CUT_UP = 200;
        private static final int CUT_DOWN = 300;
        private static final int CUT_OUT = 400;
        private static final int CUT_LIMIT = 500;

        final int[] scheduled = new int[MOST_NOMINATIONS];
        final int[] firm = new int[MOST_NOMINATIONS];
        final int[] cutAt = new int[MOST_NOMINATIONS];
        private final int[] left = new int[STOPS];
        private final int[] goers = new int[STOPS];
        private final int[] firmAsked = new int[MOST_NOMINATIONS];
        private final int[] parts = new int[MOST_NOMINATIONS];
        private final int[] before = new int[MOST_NOMINATIONS];
        private int many = 0;

        void make(Pipe pipe) {
            start(pipe);
            shareFirm(pipe);
            for (int i = 0; i < many; i++) {
                parts[i] = firmAsked[i];
            }
            serve();
            System.arraycopy(scheduled, 0, firm, 0, MOST_NOMINATIONS);
            for (int rank = 1; rank <= MOST_RANK; rank++) {
                if (askRank(pipe, rank)) {
                    serve();
                }
            }
        }

        void makeOfOneClass(Pipe pipe) {
            start(pipe);
            for (int i = 0; i < many; i++) {
                parts[i] = pipe.nominations.at(i, MUCH);
            }
            serve();
        }

        private void start(Pipe pipe) {
            many = pipe.nominations.count;
            Arrays.fill(scheduled, 0);
            Arrays.fill(firm, 0);
            Arrays.fill(cutAt, REFUSED);
            Arrays.fill(left, 0);
            Arrays.fill(goers, 0);
            for (int i = 0; i < pipe.points.count; i++) {
                int stops = pipe.isIn(i) ? IN_STOPS : OUT_STOPS;
                left[stops + i] = pipe.points.at(i, POINT_CAP);
            }
            for (int i = 0; i < pipe.segments.count; i++) {
                left[UP_STOPS + i] = pipe.segments.at(i, SEGMENT_CAP);
                left[DOWN_STOPS + i] = pipe.segments.at(i, SEGMENT_CAP);
            }
            for (int i = 0; i < pipe.shippers.count; i++) {
                int limit = pipe.shippers.at(i, LIMIT);
                int parked = pipe.shippers.at(i, PARKED);
                left[LIMIT_STOPS + 2 * i] = limit - parked;
                left[LIMIT_STOPS + 2 * i + 1] = limit + parked;
            }
            for (int i = 0; i < many; i++) {
                markWay(pipe, i);
            }
        }

        private void markWay(Pipe pipe, int nomination) {
            int bit = 1 << nomination;
            int from = pipe.nominations.at(nomination, FROM);
            int to = pipe.nominations.at(nomination, TO);
            int limits = LIMIT_STOPS + 2 * pipe.shipperOf(nomination);
            if (to == NONE) {
                mark(IN_STOPS + from, bit);
                mark(limits, bit);
            } else if (from == NONE) {
                mark(OUT_STOPS + to, bit);
                mark(limits + 1, bit);
            } else {
                mark(IN_STOPS + from, bit);
                markSegments(pipe.hubOf(from), pipe.hubOf(to), bit);
                mark(OUT_STOPS + to, bit);
            }
        }

        private void markSegments(int hub, int other, int bit) {
            for (int segment = hub; segment < other; segment++) {
                mark(UP_STOPS + segment, bit);
            }
            for (int segment = other; segment < hub; segment++) {
                mark(DOWN_STOPS + segment, bit);
            }
        }

        private void mark(int stop, int bit) {
            if (stop >= 0 && stop < STOPS) {
                goers[stop] |= bit;
            }
        }

        private void shareFirm(Pipe pipe) {
            for (int shipper = 0; shipper < pipe.shippers.count; shipper++) {
                int lasts = pipe.shippers.at(shipper, FIRM);
                for (int i = 0; i < many; i++) {
                    if (pipe.shipperOf(i) == shipper) {
                        firmAsked[i] = Math.min(pipe.nominations.at(i, MUCH), lasts);
                        lasts -= firmAsked[i];
                    }
                }
            }
        }

        /** Answers whether anything is asked for in the class of that rank. */
        private boolean askRank(Pipe pipe, int rank) {
            boolean any = false;
            for (int i = 0; i < many; i++) {
                boolean asks = pipe.shippers.at(pipe.shipperOf(i), RANK) == rank;
                parts[i] = asks ? pipe.nominations.at(i, MUCH) - firmAsked[i] : 0;
                any |= parts[i] > 0;
            }
            return any;
        }

        private void serve() {
            for (int stop = 0; stop < STOPS; stop++) {
                squeeze(stop);
            }
            for (int stop = 0; stop < STOPS; stop++) {
                left[stop] -= together(goers[stop]);
            }
            for (int i = 0; i < many; i++) {
                scheduled[i] += parts[i];
            }
        }

        private int together(int bits) {
            int sum = 0;
            for (int i = 0; bits != 0 && i < many; i++) {
                if ((bits & 1 << i) != 0) {
                    sum += parts[i];
                }
            }
            return sum;
        }

        private void squeeze(int stop) {
            int bits = goers[stop];
            int all = together(bits);
            if (all <= 0 || all <= left[stop]) {
                return;
            }
            int over = left[stop];
            for (int i = 0; i < many; i++) {
                before[i] = parts[i];
                if ((bits & 1 << i) != 0) {
                    parts[i] = before[i] * left[stop] / all;
                    over -= parts[i];
                }
            }
            for (int i = 0; i < many; i++) {
                if (over > 0 && parts[i] < before[i]) {
                    parts[i]++;
                    over--;
                }
                // a part that got back the one it had lost is not CUT
                if (parts[i] < before[i] && cutAt[i] == REFUSED) {
                    cutAt[i] = codeOf(stop);
                }
            }
        }

        private static int codeOf(int stop) {
            if (stop < UP_STOPS) {
                return CUT_IN;
            }
            if (stop < DOWN_STOPS) {
                return CUT_UP + stop - UP_STOPS;
            }
            if (stop < OUT_STOPS) {
                return CUT_DOWN + stop - DOWN_STOPS;
            }
            return stop < LIMIT_STOPS ? CUT_OUT : CUT_LIMIT;
        }

        int of(int nomination) {
            return within(nomination, 0, MOST_NOMINATIONS - 1) ? scheduled[nomination] : NONE;
        }

        int inAll() {
            int sum = 0;
            for (int i = 0; i < many; i++) {
                sum += scheduled[i];
            }
            return sum;
        }

        private int leftAt(int stop) {
            return within(stop, 0, STOPS - 1) ? left[stop] : NONE;
        }

        int leftAtPoint(Pipe pipe, int point) {
            return leftAt((pipe.isIn(point) ? IN_STOPS : OUT_STOPS) + point);
        }

        int leftUp(int segment) {
            return leftAt(UP_STOPS + segment);
        }

        int leftDown(int segment) {
            return leftAt(DOWN_STOPS + segment);
        }

        int tightStop(Pipe pipe, int k) {
            int found = 0;
            for (int i = 0; i < pipe.points.count; i++) {
                if (leftAtPoint(pipe, i) == 0 && found++ == k) {
                    return CUT_IN + i;
                }
            }
            for (int i = 0; i < pipe.segments.count; i++) {
                if (leftUp(i) == 0 && found++ == k) {
                    return CUT_UP + i;
                }
            }
            for (int i = 0; i < pipe.segments.count; i++) {
                if (leftDown(i) == 0 && found++ == k) {
                    return CUT_DOWN + i;
                }
            }
            return k == NONE ? found : REFUSED;
        }

        /** Of what a SHIPPER (NONE: all) has nominated, the thousandths that are SCHEDULED. */
        int share(Pipe pipe, int shipper) {
            int nominated = pipe.nominatedBy(shipper);
            if (nominated <= 0) {
                return THOUSANDTHS;
            }
            int sum = 0;
            for (int i = 0; i < many; i++) {
                if (shipper == NONE || pipe.shipperOf(i) == shipper) {
                    sum += scheduled[i];
                }
            }
            return sum * THOUSANDTHS / nominated;
        }
    }

    /** The pipes as they were before the last acts, in a ring. */
    private static final class History {
        private final Pipe[] ring = new Pipe[MOST_UNDONE];
        private int next = 0;
        int depth = 0;

        History() {
            for (int i = 0; i < MOST_UNDONE; i++) {
                ring[i] = new Pipe();
            }
        }

        void remember(Pipe pipe) {
            ring[next].become(pipe);
            next = (next + 1) % MOST_UNDONE;
            depth = Math.min(depth + 1, MOST_UNDONE);
        }

        void restore(Pipe pipe) {
            if (depth == 0) {
                return;
            }
            next = (next + MOST_UNDONE - 1) % MOST_UNDONE;
            pipe.become(ring[next]);
            depth--;
        }

        void forget() {
            depth = 0;
        }
    }

    private static final class Tape {
        private static final int FED = 20;

        private final byte[] bytes = new byte[MOST_BYTES];
        int length = 0;

        boolean hasRoom() {
            return length + FED <= MOST_BYTES;
        }

        void append(int four) {
            for (int shift = 24; shift >= 0; shift -= 8) {
                if (length < MOST_BYTES) {
                    bytes[length] = (byte) (four >> shift);
                    length++;
                }
            }
        }

        /** NONE behind the last byte. */
        int at(int place) {
            return place >= 0 && place < length && place < MOST_BYTES ? bytes[place] & 255 : NONE;
        }
    }

    /** Reads its tape into a pipe of its own; only the first fault counts, and nothing is added behind it. */
    private static final class Reader {
        static final int NO_FAULT = 0;
        private static final int CANNOT_STAND = 1;
        private static final int NOT_AS_TOLD = 2;
        private static final int TOO_MANY = 3;
        private static final int PLACE = 8;
        private static final int FAR_ABOVE = 1000000;

        final Tape tape = new Tape();
        final Pipe pipe = new Pipe();
        private int at = 0;
        private int wordAt = 0;
        private int numberAt = 0;
        private int fault = NO_FAULT;

        int read() {
            at = 0;
            fault = NO_FAULT;
            pipe.clear();
            readHubs();
            skipBlanks();
            for (int parts = 0; parts < MOST_BYTES && fault == NO_FAULT && at < tape.length; parts++) {
                readMark();
                readPart();
                skipBlanks();
            }
            return fault;
        }

        private void fail(int place, int kind) {
            if (fault == NO_FAULT) {
                fault = PLACE * place + kind;
            }
        }

        private void skipBlanks() {
            while (at < tape.length && tape.at(at) == ' ') {
                at++;
            }
        }

        private void readWord() {
            skipBlanks();
            wordAt = at;
            while (at < tape.length && tape.at(at) >= 'a' && tape.at(at) <= 'z') {
                at++;
            }
        }

        private boolean wordIs(String word) {
            if (at - wordAt != word.length()) {
                return false;
            }
            for (int i = 0; i < word.length(); i++) {
                if (tape.at(wordAt + i) != word.charAt(i)) {
                    return false;
                }
            }
            return true;
        }

        private static boolean isDigit(int sign) {
            return sign >= '0' && sign <= '9';
        }

        private int readNumber(int least, int most) {
            skipBlanks();
            if (!isDigit(tape.at(at))) {
                fail(at, CANNOT_STAND);
                return least;
            }
            numberAt = at;
            int number = 0;
            while (at < tape.length && isDigit(tape.at(at))) {
                // far above every bound it need not grow any more
                number = Math.min(number * 10 + tape.at(at) - '0', FAR_ABOVE);
                at++;
            }
            mustBe(within(number, least, most));
            return number;
        }

        private void mustBe(boolean asTold) {
            if (!asTold) {
                fail(numberAt, NOT_AS_TOLD);
            }
        }

        private void readHubs() {
            readWord();
            if (!wordIs("hubs")) {
                fail(wordAt, CANNOT_STAND);
            }
            int hubs = readNumber(LEAST_HUBS, MOST_HUBS);
            if (fault != NO_FAULT) {
                return;
            }
            pipe.hubs = hubs;
            for (int i = 0; i < hubs - 1; i++) {
                pipe.segments.put(pipe.segments.add(), SEGMENT_CAP, MOST);
            }
        }

        private void readMark() {
            if (tape.at(at) == ';') {
                at++;
            } else {
                fail(at, CANNOT_STAND);
            }
        }

        private void readPart() {
            readWord();
            if (wordIs("segment")) {
                readSegment();
            } else if (wordIs("in")) {
                readPoint(1);
            } else if (wordIs("out")) {
                readPoint(0);
            } else if (wordIs("shipper")) {
                readShipper();
            } else if (wordIs("nom")) {
                readNomination(true, true);
            } else if (wordIs("park")) {
                readNomination(true, false);
            } else if (wordIs("loan")) {
                readNomination(false, true);
            } else if (wordIs("price")) {
                readPrice();
            } else {
                fail(wordAt, CANNOT_STAND);
            }
        }

        private void readSegment() {
            int segment = readNumber(0, pipe.segments.count - 1);
            int cap = readNumber(0, MOST);
            int fuel = readNumber(0, MOST_FUEL);
            if (fault == NO_FAULT) {
                pipe.segments.put(segment, SEGMENT_CAP, cap);
                pipe.segments.put(segment, SEGMENT_FUEL, fuel);
            }
        }

        private void readPoint(int in) {
            failIfFull(pipe.points);
            int hub = readNumber(0, pipe.hubs - 1);
            int cap = readNumber(0, MOST);
            if (fault == NO_FAULT) {
                int row = pipe.points.add();
                pipe.points.put(row, POINT_HUB, hub);
                pipe.points.put(row, POINT_IN, in);
                pipe.points.put(row, POINT_CAP, cap);
            }
        }

        private void readShipper() {
            failIfFull(pipe.shippers);
            int firm = readNumber(0, MOST);
            int rank = readNumber(1, MOST_RANK);
            int tolerance = readNumber(0, MOST);
            int limit = readNumber(0, MOST);
            if (fault == NO_FAULT) {
                int row = pipe.shippers.add();
                pipe.shippers.put(row, FIRM, firm);
                pipe.shippers.put(row, RANK, rank);
                pipe.shippers.put(row, TOLERANCE, tolerance);
                pipe.shippers.put(row, LIMIT, limit);
            }
        }

        private void readNomination(boolean hasFrom, boolean hasTo) {
            failIfFull(pipe.nominations);
            int shipper = readNumber(0, pipe.shippers.count - 1);
            int from = NONE;
            int to = NONE;
            if (hasFrom) {
                from = readNumber(0, pipe.points.count - 1);
                mustBe(pipe.isIn(from));
            }
            if (hasTo) {
                to = readNumber(0, pipe.points.count - 1);
                mustBe(pipe.isOut(to));
            }
            int n = readNumber(0, MOST);
            if (fault == NO_FAULT) {
                pipe.addNomination(shipper, from, to, n);
            }
        }

        private void readPrice() {
            int price = readNumber(0, MOST_PRICE);
            int fine = readNumber(0, MOST_FINE);
            if (fault == NO_FAULT) {
                pipe.price = price;
                pipe.fine = fine;
            }
        }

        private void failIfFull(Table table) {
            if (table.isFull()) {
                fail(wordAt, TOO_MANY);
            }
        }
    }

    /** Tells a pipe as a text. */
    private static final class Writer {
        final StringBuilder text = new StringBuilder();

        void write(Pipe pipe) {
            text.setLength(0);
            if (!pipe.isThere()) {
                return;
            }
            text.append("hubs");
            putNumber(pipe.hubs);
            putSegments(pipe);
            putPoints(pipe);
            putShippers(pipe);
            putNominations(pipe);
            putWord("price");
            putNumber(pipe.price);
            putNumber(pipe.fine);
        }

        private void putWord(String word) {
            text.append(';');
            text.append(word);
        }

        private void putNumber(int number) {
            text.append(' ');
            text.append(number);
        }

        private void putSegments(Pipe pipe) {
            for (int i = 0; i < pipe.segments.count; i++) {
                putWord("segment");
                putNumber(i);
                putNumber(pipe.segments.at(i, SEGMENT_CAP));
                putNumber(pipe.segments.at(i, SEGMENT_FUEL));
            }
        }

        private void putPoints(Pipe pipe) {
            for (int i = 0; i < pipe.points.count; i++) {
                putWord(pipe.isIn(i) ? "in" : "out");
                putNumber(pipe.hubOf(i));
                putNumber(pipe.points.at(i, POINT_CAP));
            }
        }

        private void putShippers(Pipe pipe) {
            for (int i = 0; i < pipe.shippers.count; i++) {
                putWord("shipper");
                for (int what = FIRM; what <= LIMIT; what++) {
                    putNumber(pipe.shippers.at(i, what));
                }
            }
        }

        private void putNominations(Pipe pipe) {
            for (int i = 0; i < pipe.nominations.count; i++) {
                int from = pipe.nominations.at(i, FROM);
                int to = pipe.nominations.at(i, TO);
                String word = from == NONE ? "loan" : "park";
                putWord(pipe.goesAlong(i) ? "nom" : word);
                putNumber(pipe.shipperOf(i));
                if (from != NONE) {
                    putNumber(from);
                }
                if (to != NONE) {
                    putNumber(to);
                }
                putNumber(pipe.nominations.at(i, MUCH));
            }
        }
    }

    /** The trades by which balances above and below 0 would meet. */
    private static final class Netting {
        private static final int GIVES = 0;
        private static final int GETS = 1;
        private static final int AMOUNT = 2;
        private static final int COLUMNS = 3;

        private final int[] balances = new int[MOST_SHIPPERS];
        private final int[] cells = new int[MOST_SHIPPERS * COLUMNS];
        int trades = 0;

        void settle(Pipe pipe) {
            trades = 0;
            Arrays.fill(balances, 0);
            for (int i = 0; i < pipe.shippers.count; i++) {
                balances[i] = pipe.shippers.at(i, BALANCE);
            }
            // each trade brings one balance to 0, so there are fewer of them than shippers
            for (int i = 0; i < MOST_SHIPPERS; i++) {
                int giver = firstOf(1);
                int getter = firstOf(-1);
                if (giver == NONE || getter == NONE) {
                    return;
                }
                note(giver, getter, Math.min(balances[giver], -balances[getter]));
            }
        }

        private int firstOf(int sign) {
            for (int i = 0; i < MOST_SHIPPERS; i++) {
                if (Integer.signum(balances[i]) == sign) {
                    return i;
                }
            }
            return NONE;
        }

        private void note(int giver, int getter, int amount) {
            balances[giver] -= amount;
            balances[getter] += amount;
            cells[trades * COLUMNS + GIVES] = giver;
            cells[trades * COLUMNS + GETS] = getter;
            cells[trades * COLUMNS + AMOUNT] = amount;
            trades++;
        }

        int tradeAt(int k, int what) {
            if (!within(k, 0, trades - 1) || !within(what, GIVES, AMOUNT)) {
                return NONE;
            }
            return cells[k * COLUMNS + what];
        }

        int together() {
            int sum = 0;
            for (int i = 0; i < trades; i++) {
                sum += tradeAt(i, AMOUNT);
            }
            return sum;
        }
    }
}
