import java.util.ArrayList;
import java.util.List;

/**
 * All that can be told of an object, so that two of them can be told apart: what was refused,
 * what is there and what may be undone, the same of both IMAGES, and what THE TEXT tells.
 */
final class Observed {
    private Observed() {
    }

    /** Uses the object up, by fewer than 70 calls. */
    static List<Long> of(PledgeWindow x) {
        List<Long> told = new ArrayList<>();
        for (int what = 0; what < 3; what++) {
            told.add((long) x.status(what));
        }
        past(x, told);
        for (int i = 0; i < 2; i++) {
            told.add((long) x.from(i));
            past(x, told);
        }
        told.add((long) x.read());
        told.add(x.digest());
        return told;
    }

    private static void past(PledgeWindow x, List<Long> told) {
        told.add(x.digest());
        for (int n = 0; n < 9; n++) {
            long day = x.undo();
            told.add(day);
            if (day < 0) {
                return;
            }
            told.add(x.digest());
        }
    }
}
