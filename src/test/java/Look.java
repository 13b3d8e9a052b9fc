/**
 * All that can be seen of an object, as a text, so that two can be compared. It uses the object up: at its end
 * acts are undone, shelves are brought back and the tape is told, for these too must be as they were.
 */
final class Look {
    /** An object is used for 512 calls; the ones ahead of a look have the rest. */
    private static final int MOST_CALLS = 440;

    private final GasNominations x;
    private final StringBuilder seen = new StringBuilder();
    private int calls = 0;

    private Look(GasNominations x) {
        this.x = x;
    }

    static String all(GasNominations x) {
        Look look = new Look(x);
        look.pipe();
        look.books();
        look.acts();
        look.shelves();
        look.tape();
        if (look.calls > MOST_CALLS) {
            throw new IllegalStateException("a look of " + look.calls + " calls");
        }
        return look.seen.toString();
    }

    private long note(long answer) {
        calls++;
        seen.append(answer).append(' ');
        return answer;
    }

    private int much(int what) {
        calls++;
        return x.count(what);
    }

    private void pipe() {
        for (int what = 0; what <= 7; what++) {
            note(x.count(what));
        }
        note(x.price(0));
        note(x.price(1));
        for (int i = much(1) - 1; i >= 0; i--) {
            for (int what = 0; what <= 4; what++) {
                note(x.point(i, what));
            }
        }
        for (int i = much(0) - 2; i >= 0; i--) {
            for (int what = 0; what <= 3; what++) {
                note(x.segment(i, what));
            }
        }
        for (int i = much(3) - 1; i >= 0; i--) {
            for (int what = 0; what <= 3; what++) {
                note(x.nomination(i, what));
            }
            note(x.plan(i, 0));
        }
        seen.append('\n');
    }

    private void books() {
        int days = Math.min(much(4), 8);
        for (int i = much(2) - 1; i >= 0; i--) {
            for (int what = 0; what <= 6; what++) {
                note(x.shipper(i, what));
            }
            for (int day = 0; day < days; day++) {
                note(x.log(day, i));
            }
        }
        for (int what = 0; what <= 4; what++) {
            note(x.total(what));
        }
        seen.append('\n');
    }

    private void glance() {
        note(x.count(3));
        note(x.count(4));
        note(x.letter(GasNominations.NONE));
        note(x.total(0));
        note(x.total(4));
    }

    private void acts() {
        for (int i = much(5); i > 0; i--) {
            note(x.undo());
            glance();
        }
        seen.append('\n');
    }

    private void shelves() {
        for (int shelf = 0; shelf < 2; shelf++) {
            if (note(x.back(shelf)) >= 0) {
                glance();
            }
        }
        seen.append('\n');
    }

    private void tape() {
        note(x.tell());
        glance();
    }
}
