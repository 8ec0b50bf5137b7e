import java.util.ArrayList;
import java.util.List;

/** All that an object tells of how it is, to hold two of them side by side. It leaves the object changed. */
final class Look {
    private static final int CALLS = 300;

    private final HatGoes x;
    private final List<Long> answers = new ArrayList<>();

    private Look(HatGoes x) {
        this.x = x;
    }

    static List<Long> at(HatGoes x) {
        Look look = new Look(x);
        look.evening();
        look.far();
        look.trace();
        look.tapes();
        look.rows();
        look.sorts();
        look.text();
        look.kept();
        if (look.answers.size() > CALLS) {
            throw new IllegalStateException("a look has too many calls: " + look.answers.size());
        }
        return look.answers;
    }

    private void tells(long answer) {
        answers.add(answer);
    }

    private void evening() {
        for (int what = 0; what <= 5; what++) {
            tells(x.count(what));
        }
        for (int what = 0; what <= 3; what++) {
            tells(x.told(what));
            tells(x.lied(what));
        }
        tells(x.looked());
        int guests = x.count(0);
        for (int guest = 0; guest < guests; guest++) {
            for (int what = 0; what <= 5; what++) {
                tells(x.of(guest, what));
            }
        }
    }

    private void far() {
        tells(x.at(13, 0));
        tells(x.at(60, 0));
        tells(x.at(60, 1));
        tells(x.odds(0, 3, 0));
        tells(x.mean(5, 0));
    }

    private void trace() {
        for (int i = 0; i <= 12; i++) {
            tells(x.trace(i));
        }
    }

    private void tapes() {
        for (int tape = 0; tape < 6; tape++) {
            for (int i = 0; i < 10; i++) {
                tells(x.read(tape, i));
            }
            tells(x.read(tape, 59));
        }
    }

    private void rows() {
        for (int guest = 0; guest < 7; guest++) {
            boolean told = x.of(guest, 0) == 6;
            for (int part = 0; part < 8 && told; part++) {
                tells(x.row(guest, part, 0));
            }
        }
    }

    /** What an item keeps of a long number tells the sort of a tape. */
    private void sorts() {
        for (int tape = 0; tape < 6; tape++) {
            tells(x.item(tape, 0, 0x123456789abcL));
            tells(x.read(tape, 0));
        }
    }

    private void text() {
        tells(x.house());
        tells(x.told(2));
    }

    private void kept() {
        tells(x.undo());
        evening();
        rows();
        tells(x.mean(5, 0));
    }
}
