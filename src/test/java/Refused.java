import java.util.ArrayList;
import java.util.List;
import java.util.function.Supplier;
import java.util.function.ToIntFunction;
import java.util.function.ToLongFunction;

/**
 * A call that throws changes nothing: all answers, and what later calls do, are as if it had not been made.
 * Groups are made anew again and again, so that no object is asked more than its 512 calls.
 */
final class Refused {
    private static final int ASKED_AT_ONCE = 64;

    private final Checks checks;
    private final Supplier<RatchetGroup> build;
    private final List<ToLongFunction<RatchetGroup>> questions = new ArrayList<>();

    Refused(Checks checks, Supplier<RatchetGroup> build) {
        this.checks = checks;
        this.build = build;
        int last = build.get().epochs() - 1;
        questions.add(RatchetGroup::epochs);
        questions.add(RatchetGroup::waiting);
        questions.add(RatchetGroup::known);
        for (int i = 0; i < 16; i++) {
            askOfMember(i);
        }
        for (int i = 0; i < 31; i++) {
            askOfNode(last, i);
        }
        for (int what = 0; what < 7; what++) {
            int w = what;
            questions.add(g -> g.epoch(last, w));
        }
        questions.add(g -> g.isKnown(last) ? 1 : 0);
        questions.add(g -> g.epoch(last + 1, 0));
        questions.add(Refused::goOn);
    }

    void index(String call, ToIntFunction<RatchetGroup> made) {
        nothingChanges(call, made, Checks.INDEX);
    }

    void state(String call, ToIntFunction<RatchetGroup> made) {
        nothingChanges(call, made, Checks.STATE);
    }

    private void nothingChanges(String call, ToIntFunction<RatchetGroup> made, long thrown) {
        for (int from = 0; from < questions.size(); from += ASKED_AT_ONCE) {
            RatchetGroup refusing = build.get();
            RatchetGroup other = build.get();
            checks.due(call, Checks.answer(() -> made.applyAsInt(refusing)), thrown);
            for (int i = from; i < questions.size() && i < from + ASKED_AT_ONCE; i++) {
                long due = questions.get(i).applyAsLong(other);
                checks.due(call + " changed the answer to question " + i, questions.get(i).applyAsLong(refusing), due);
            }
        }
    }

    private void askOfMember(int m) {
        for (int what = 0; what < 4; what++) {
            int w = what;
            questions.add(g -> g.member(m, w));
        }
        questions.add(g -> g.has(m) ? 1 : 0);
        for (int node = 0; node < 31; node++) {
            int x = node;
            questions.add(g -> g.holds(m, x) ? 1 : 0);
        }
    }

    private void askOfNode(int epoch, int x) {
        for (int what = 0; what < 4; what++) {
            int w = what;
            questions.add(g -> g.node(epoch, x, w));
        }
        questions.add(g -> g.isOpen(epoch, x) ? 1 : 0);
    }

    /** The answers of some calls that change the group, made into one number. */
    private static long goOn(RatchetGroup g) {
        long all = 0;
        for (int i = 0; i < 16; i++) {
            int m = i;
            all = 31 * all + Checks.answer(() -> g.offer(m));
            all = 31 * all + Checks.answer(() -> g.come(m));
            all = 31 * all + Checks.answer(() -> g.update(m));
            all = 31 * all + Checks.answer(() -> g.commit(m, false));
            all = 31 * all + g.member(m, 2);
        }
        for (int what = 0; what < 7; what++) {
            all = 31 * all + g.epoch(g.epochs() - 1, what);
        }
        return all;
    }
}
