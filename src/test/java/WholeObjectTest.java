import java.util.ArrayList;
import java.util.List;
import java.util.Random;

/** The chapter "What it is", and what holds for an object as a whole, whatever calls it is used for. */
public final class WholeObjectTest {
    private static final int CALLS = 512;
    private static final int KINDS = 17;
    /** By its number in call(): those below THROWING may throw; compromise() is the last of these. */
    private static final int COMPROMISE = 6;
    private static final int THROWING = 7;
    private static final int[] STRANGE = {Integer.MIN_VALUE, -2, -1, 16, 31, 32, 60, 64, 1 << 30, Integer.MAX_VALUE};
    private static final Checks CHECKS = new Checks("WholeObjectTest");

    public static void main(String[] args) {
        membersAndNobodyElse();
        oneThatHasLeftTellsNothing();
        allLimitsWithinItsCalls();
        objectsSideBySide();
        nothingButTheDocumentsExceptions();
        CHECKS.end();
    }

    private static long bit(boolean yes) {
        return yes ? 1 : 0;
    }

    private static long call(RatchetGroup g, int kind, int a, int b, int c) {
        return switch (kind) {
            case 0 -> Checks.answer(() -> g.offer(a));
            case 1 -> Checks.answer(() -> g.add(a, b));
            case 2 -> Checks.answer(() -> g.remove(a, b));
            case 3 -> Checks.answer(() -> g.update(a));
            case 4 -> Checks.answer(() -> g.commit(a, b % 2 == 0));
            case 5 -> Checks.answer(() -> g.come(a));
            case COMPROMISE -> Checks.answer(() -> g.compromise(a));
            case 7 -> Checks.answer(() -> g.member(a, b));
            case 8 -> Checks.answer(() -> (int) bit(g.holds(a, b)));
            case 9 -> Checks.answer(() -> (int) bit(g.has(a)));
            case 10 -> Checks.answer(() -> g.node(a, b, c));
            case 11 -> Checks.answer(() -> g.epoch(a, b));
            case 12 -> Checks.answer(g::epochs);
            case 13 -> Checks.answer(g::waiting);
            case 14 -> Checks.answer(() -> (int) bit(g.isKnown(a)));
            case 15 -> Checks.answer(() -> (int) bit(g.isOpen(a, b)));
            default -> Checks.answer(g::known);
        };
    }

    /**
     * A run of calls that change something, compromise() left out, mostly by members that may make them. It is
     * drawn with an object that is asked more than its 512 calls: its answers steer the drawing, no more.
     */
    private static List<int[]> drawn(long seed, int length) {
        Random random = new Random(seed);
        RatchetGroup scout = new RatchetGroup();
        List<int[]> run = new ArrayList<>();
        for (int i = 0; i < length; i++) {
            int kind = random.nextInt(COMPROMISE);
            int who = random.nextInt(6);
            for (int k = 0; k < 6 && kind >= 1 && kind <= 4 && scout.member(who, 0) != scout.epochs() - 1; k++) {
                who = (who + 1) % 6;
            }
            run.add(new int[] {kind, who, random.nextInt(8)});
            change(scout, run.get(i));
        }
        return run;
    }

    private static long change(RatchetGroup g, int[] asked) {
        return call(g, asked[0], asked[1], asked[2], 0);
    }

    private static RatchetGroup after(List<int[]> run) {
        RatchetGroup g = new RatchetGroup();
        for (int[] asked : run) {
            change(g, asked);
        }
        return g;
    }

    private static void membersAndNobodyElse() {
        CHECKS.sentence("each change opens an EPOCH with a secret that the members, and nobody else, shall have");
        int opened = 0;
        for (int seed = 1; seed <= 20; seed++) {
            List<int[]> run = drawn(seed, 200);
            RatchetGroup g = after(run);
            for (int i = 0; i < 16; i++) {
                CHECKS.due("has(" + i + ")", bit(g.has(i)), bit(g.member(i, 0) != RatchetGroup.NONE));
            }
            CHECKS.due("known()", g.known(), 0);
            int epochs = g.epochs();
            opened += epochs - 1;
            for (int e = 0; e < epochs; e++) {
                RatchetGroup again = after(run);
                CHECKS.no("isKnown(" + e + ")", again.isKnown(e));
                for (int node = 0; node < 31; node++) {
                    CHECKS.no("isOpen(" + e + ", " + node + ")", again.isOpen(e, node));
                }
            }
        }
        CHECKS.yes("changes: " + opened, opened >= 400);
    }

    private static void oneThatHasLeftTellsNothing() {
        CHECKS.sentence("the members, and nobody else");
        RatchetGroup g = Groups.of(5, true);
        g.remove(0, 3);
        g.commit(0, false);
        CHECKS.due("compromise(3)", g.compromise(3), 0);
        CHECKS.due("known()", g.known(), 0);
        // One that is a member tells the secret, until its keys are new.
        g.compromise(4);
        CHECKS.yes("isKnown(2)", g.isKnown(2));
        g.come(4);
        g.commit(4, true);
        CHECKS.no("isKnown(3)", g.isKnown(3));
    }

    private static void allLimitsWithinItsCalls() {
        CHECKS.sentence("An object is used for at most 512 calls");
        RatchetGroup g = new RatchetGroup();
        int calls = 0;
        for (int i = 0; i < 60; i++, calls++) {
            CHECKS.due("offer", g.offer(1 + i % 15), i);
        }
        for (int i = 0; i < 15; i++, calls++) {
            CHECKS.due("add", g.add(0, i), i + 1);
        }
        for (int i = 1; i < 60; i++, calls++) {
            CHECKS.due("commit", g.commit(0, i % 2 == 0), i);
        }
        for (int i = 0; i < 20; i++, calls++) {
            CHECKS.due("update", g.update(0), i + 1);
        }
        for (int m = 1; calls < CALLS - 5; m++) {
            for (int i = 1; i < 60 && calls < CALLS - 5; i++, calls++) {
                CHECKS.due("come(" + m + ")", g.come(m), i);
            }
        }
        CHECKS.due("calls before the last five", calls, CALLS - 5);
        CHECKS.throwsState("offer(0)", () -> g.offer(0));
        CHECKS.throwsState("add(0, 0)", () -> g.add(0, 0));
        CHECKS.throwsState("commit(0, true)", () -> g.commit(0, true));
        // Its secret, its leaf's key, four of its path, 20 updates.
        CHECKS.due("compromise(0)", g.compromise(0), 26);
        CHECKS.due("known()", g.known(), 1);
    }

    private static void objectsSideBySide() {
        CHECKS.sentence("the same calls give the same answers, whatever other objects are used for");
        List<int[]> run = drawn(7, CALLS);
        List<int[]> otherRun = drawn(8, CALLS);
        RatchetGroup first = new RatchetGroup();
        long[] alone = new long[CALLS];
        for (int i = 0; i < CALLS; i++) {
            alone[i] = change(first, run.get(i));
        }
        RatchetGroup second = new RatchetGroup();
        RatchetGroup other = new RatchetGroup();
        for (int i = 0; i < CALLS; i++) {
            change(other, otherRun.get(i));
            CHECKS.due("call " + i, change(second, run.get(i)), alone[i]);
        }
    }

    private static void nothingButTheDocumentsExceptions() {
        CHECKS.sentence("no call throws anything but what the document says, after its 512th call, too");
        for (int seed = 1; seed <= 20; seed++) {
            Random random = new Random(seed);
            RatchetGroup g = new RatchetGroup();
            for (int i = 0; i < 10000; i++) {
                int kind = random.nextInt(KINDS);
                int a = argument(random, 16);
                int b = argument(random, 20);
                int c = argument(random, 5);
                long answer = call(g, kind, a, b, c);
                String told = "call " + i + " of kind " + kind + " with " + a + ", " + b + ", " + c;
                CHECKS.no(told + " throws another one", answer == Checks.OTHER);
                CHECKS.no(told + " throws IndexOutOfBoundsException", answer == Checks.INDEX && kind >= THROWING);
                CHECKS.no(told + " throws IllegalStateException", answer == Checks.STATE && kind >= COMPROMISE);
            }
        }
    }

    private static int argument(Random random, int bound) {
        return random.nextInt(30) == 0 ? STRANGE[random.nextInt(STRANGE.length)] : random.nextInt(bound);
    }
}
