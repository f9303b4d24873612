/** Groups to begin a test with. */
final class Groups {
    private Groups() {
    }

    /** The members 0 .. size - 1 at leaves of the same numbers, all in epoch 1. */
    static RatchetGroup of(int size, boolean path) {
        RatchetGroup g = new RatchetGroup();
        for (int i = 1; i < size; i++) {
            g.add(0, g.offer(i));
        }
        g.commit(0, path);
        for (int i = 1; i < size; i++) {
            g.come(i);
        }
        return g;
    }

    /** Each member that is in an epoch comes one epoch further, if there is one. */
    static void allCome(RatchetGroup g) {
        for (int i = 0; i < 16; i++) {
            if (g.member(i, 0) != RatchetGroup.NONE && g.member(i, 0) != g.epochs() - 1) {
                g.come(i);
            }
        }
    }

    static int bits(int... numbers) {
        int all = 0;
        for (int i : numbers) {
            all |= 1 << i;
        }
        return all;
    }
}
