import java.util.ArrayList;
import java.util.List;
import java.util.Random;

/**
 * Long runs of calls, drawn by fixed seeds, on RatchetGroup and on GroupModel: each answer must be the same.
 * Every run stays within the 512 calls of the document.
 */
public final class RandomRunsTest {
    private static final int CALLS = 512;
    private static int wrong = 0;

    private final Random random;
    private final RatchetGroup group = new RatchetGroup();
    private final GroupModel model = new GroupModel();
    private final int crowd;
    private final int[] weights;
    private final List<String> told = new ArrayList<>();
    private final int[] reached;

    private RandomRunsTest(long seed, int[] reached) {
        random = new Random(seed);
        this.reached = reached;
        crowd = 2 + random.nextInt(15);
        weights = new int[] {4 + random.nextInt(8), 6 + random.nextInt(16), random.nextInt(10),
            random.nextInt(10), 4 + random.nextInt(10), 10 + random.nextInt(40), random.nextInt(4),
            20 + random.nextInt(60)};
    }

    public static void main(String[] args) {
        int runs = args.length > 0 ? Integer.parseInt(args[0]) : 400;
        int[] reached = new int[8];
        for (int seed = 1; seed <= runs && wrong == 0; seed++) {
            new RandomRunsTest(seed, reached).go(seed);
        }
        System.out.println("RandomRunsTest: " + runs + " runs, " + wrong + " wrong; reached: "
            + reached[0] + " commits, " + reached[1] + " runs of D 4, " + reached[2] + " with 60 epochs, "
            + reached[3] + " with 60 packages, " + reached[4] + " with a known epoch, "
            + reached[5] + " times STUCK");
        if (wrong != 0 || reached[1] == 0 || reached[2] == 0 || reached[3] == 0 || reached[4] == 0) {
            System.exit(1);
        }
    }

    private void go(long seed) {
        int deepest = 0;
        for (int i = 0; i < CALLS && wrong == 0; i++) {
            step();
            deepest = (int) Math.max(deepest, model.epoch((int) model.epochs() - 1, 0));
        }
        if (wrong != 0) {
            System.out.println("seed " + seed + ":");
            told.forEach(System.out::println);
        }
        reached[0] += (int) model.epochs() - 1;
        reached[1] += deepest == 4 ? 1 : 0;
        reached[2] += model.epochs() == 60 ? 1 : 0;
        reached[3] += model.offersMade() == 60 ? 1 : 0;
        reached[4] += model.known() > 0 ? 1 : 0;
        reached[5] += model.stuckEver();
    }

    private void step() {
        switch (draw()) {
            case 0 -> {
                int m = someone();
                same("offer(" + m + ")", Checks.answer(() -> group.offer(m)), model.offer(m));
            }
            case 1 -> {
                int m = someoneInLatest();
                int o = Math.max(-1, model.offersMade() - random.nextInt(random.nextInt(4) == 0 ? 60 : 5));
                same("add(" + m + ", " + o + ")", Checks.answer(() -> group.add(m, o)), model.add(m, o));
            }
            case 2 -> {
                int m = someoneInLatest();
                int leaf = random.nextInt(12) == 0 ? random.nextInt(19) - 1 : random.nextInt(crowd);
                same("remove(" + m + ", " + leaf + ")", Checks.answer(() -> group.remove(m, leaf)), model.remove(m, leaf));
            }
            case 3 -> {
                int m = someoneInLatest();
                same("update(" + m + ")", Checks.answer(() -> group.update(m)), model.update(m));
            }
            case 4 -> {
                int m = someoneInLatest();
                boolean path = random.nextInt(3) == 0;
                same("commit(" + m + ", " + path + ")", Checks.answer(() -> group.commit(m, path)), model.commit(m, path));
            }
            case 5 -> {
                int m = someone();
                same("come(" + m + ")", Checks.answer(() -> group.come(m)), model.come(m));
            }
            case 6 -> {
                int m = someone();
                same("compromise(" + m + ")", Checks.answer(() -> group.compromise(m)), model.compromise(m));
            }
            default -> ask();
        }
    }

    private void ask() {
        int m = someone();
        int e = random.nextInt(3) == 0 ? random.nextInt(62) - 1 : (int) model.epochs() - 1 - random.nextInt(3);
        int d = (int) Math.max(0, model.epoch(e, 0));
        int node = random.nextInt(20) == 0 ? random.nextInt(34) - 2 : random.nextInt((2 << d) - 1);
        int what = random.nextInt(9) - 1;
        switch (random.nextInt(10)) {
            case 0 -> same("member(" + m + ", " + what + ")", group.member(m, what), model.member(m, what));
            case 1 -> same("holds(" + m + ", " + node + ")", bit(group.holds(m, node)), bit(model.holds(m, node)));
            case 2 -> same("has(" + m + ")", bit(group.has(m)), bit(model.has(m)));
            case 3 -> same("node(" + e + ", " + node + ", " + what + ")", group.node(e, node, what),
                model.node(e, node, what));
            case 4 -> same("epoch(" + e + ", " + what + ")", group.epoch(e, what), model.epoch(e, what));
            case 5 -> same("epochs()", group.epochs(), model.epochs());
            case 6 -> same("waiting()", group.waiting(), model.waiting());
            case 7 -> same("isKnown(" + e + ")", bit(group.isKnown(e)), bit(model.isKnown(e)));
            case 8 -> same("isOpen(" + e + ", " + node + ")", bit(group.isOpen(e, node)), bit(model.isOpen(e, node)));
            default -> same("known()", group.known(), model.known());
        }
    }

    private int draw() {
        int sum = 0;
        for (int w : weights) {
            sum += w;
        }
        int at = random.nextInt(sum);
        int kind = 0;
        while (at >= weights[kind]) {
            at -= weights[kind];
            kind++;
        }
        return kind;
    }

    private int someone() {
        return random.nextInt(40) == 0 ? random.nextInt(20) - 2 : random.nextInt(crowd);
    }

    private int someoneInLatest() {
        int m = someone();
        for (int i = 0; i < 30 && random.nextInt(20) != 0; i++) {
            if (m >= 0 && m < 16 && model.member(m, 0) == model.epochs() - 1) {
                return m;
            }
            m = someone();
        }
        return m;
    }

    private static long bit(boolean yes) {
        return yes ? 1 : 0;
    }

    private void same(String call, long got, long due) {
        told.add(call + " answered " + got + (got == due ? "" : ", due is " + due));
        if (got != due) {
            wrong++;
        }
    }
}
