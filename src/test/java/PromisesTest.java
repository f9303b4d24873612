/** The document's promises one by one: ordinary inputs, the edges that it names, and wrong inputs. */
public final class PromisesTest {
    private static final int NONE = RatchetGroup.NONE;
    private static final int[] STRANGE = {Integer.MIN_VALUE, -2, -1, 16, 17, 31, 32, 33, 64, Integer.MAX_VALUE};

    private static final Checks CHECKS = new Checks("PromisesTest");

    public static void main(String[] args) {
        newObject();
        offer();
        add();
        remove();
        update();
        commitWhatItRefuses();
        commitRemoves();
        commitUpdates();
        commitAdds();
        commitUnmerged();
        commitPath();
        commitFullTree();
        come();
        comeWhenAddedTwice();
        comeDropsKeys();
        compromise();
        member();
        holds();
        has();
        node();
        epoch();
        epochsAndWaiting();
        intruderByPackage();
        intruderByLeafKey();
        intruderByEpochSecret();
        intruderByUpdate();
        intruderAndRemoval();
        strangeArgumentsEverywhere();
        CHECKS.end();
    }

    private static void nodesAre(String when, RatchetGroup g, int epoch, String keys) {
        for (int i = 0; i < keys.length(); i++) {
            CHECKS.due(when + ": node(" + epoch + ", " + i + ", 0)", g.node(epoch, i, 0), keys.charAt(i) == 'k' ? 1 : 0);
        }
        CHECKS.due(when + ": one node more", g.node(epoch, keys.length(), 0), NONE);
    }

    // --- 1
    private static void newObject() {
        RatchetGroup g = new RatchetGroup();
        CHECKS.due("epochs()", g.epochs(), 1);
        CHECKS.due("waiting()", g.waiting(), 0);
        CHECKS.due("known()", g.known(), 0);
        long[] due = {0, NONE, 0, 0, 0, 0, 0};
        for (int what = 0; what < due.length; what++) {
            CHECKS.due("new: epoch(0, " + what + ")", g.epoch(0, what), due[what]);
        }
        nodesAre("new", g, 0, "k");
        CHECKS.due("new: node(0, 0, 1)", g.node(0, 0, 1), 0);
        CHECKS.due("new: node(0, 0, 2)", g.node(0, 0, 2), 0);
        CHECKS.due("new: node(0, 0, 3)", g.node(0, 0, 3), 1);
        CHECKS.due("new: member(0, 0)", g.member(0, 0), 0);
        CHECKS.due("new: member(0, 1)", g.member(0, 1), 0);
        CHECKS.due("new: member(0, 2)", g.member(0, 2), 2);
        CHECKS.due("new: member(0, 3)", g.member(0, 3), 0);
        CHECKS.yes("new: holds(0, 0)", g.holds(0, 0));
        CHECKS.yes("new: has(0)", g.has(0));
        CHECKS.no("new: isKnown(0)", g.isKnown(0));
        CHECKS.no("new: isOpen(0, 0)", g.isOpen(0, 0));
        for (int i = 1; i < 16; i++) {
            CHECKS.due("new: member(" + i + ", 0)", g.member(i, 0), NONE);
            CHECKS.due("new: member(" + i + ", 1)", g.member(i, 1), NONE);
            CHECKS.due("new: member(" + i + ", 2)", g.member(i, 2), 0);
            CHECKS.no("new: has(" + i + ")", g.has(i));
        }
        RatchetGroup other = new RatchetGroup();
        other.compromise(0);
        CHECKS.no("objects share nothing", g.isKnown(0));
    }

    // --- 2
    private static void offer() {
        RatchetGroup g = new RatchetGroup();
        for (int i = 0; i < 60; i++) {
            int m = i % 16;
            CHECKS.due("offer " + i, g.offer(m), i);
        }
        CHECKS.due("packages of 0 and its own two", g.member(0, 2), 2 + 2 * 4);
        CHECKS.due("packages of 15", g.member(15, 2), 2 * 3);
        CHECKS.throwsState("offer 60", () -> g.offer(3));
        CHECKS.throwsIndex("offer(16), when there are 60", () -> g.offer(16));
        CHECKS.due("nothing was offered", g.member(3, 2), 2 * 4);
        for (int strange : STRANGE) {
            CHECKS.throwsIndex("offer(" + strange + ")", () -> new RatchetGroup().offer(strange));
        }
        RatchetGroup one = new RatchetGroup();
        for (int i = 0; i < 60; i++) {
            one.offer(7);
        }
        CHECKS.due("60 packages of one member", one.member(7, 2), 120);
        CHECKS.due("60 packages of one member, told", one.compromise(7), 120);
    }

    // --- 3
    private static void add() {
        RatchetGroup g = new RatchetGroup();
        CHECKS.throwsIndex("add(0, 0), when there is no package", () -> g.add(0, 0));
        g.offer(1);
        CHECKS.throwsIndex("add(0, 1)", () -> g.add(0, 1));
        CHECKS.throwsIndex("add(0, -1)", () -> g.add(0, -1));
        CHECKS.throwsIndex("add(16, 0)", () -> g.add(16, 0));
        CHECKS.throwsIndex("add(-1, 0)", () -> g.add(-1, 0));
        CHECKS.throwsIndex("add(1, 1): no package goes before not in the epoch", () -> g.add(1, 1));
        CHECKS.throwsState("add(1, 0): in none", () -> g.add(1, 0));
        CHECKS.due("waiting()", g.waiting(), 0);
        for (int i = 1; i <= 20; i++) {
            CHECKS.due("add " + i, g.add(0, 0), i);
        }
        CHECKS.throwsState("add 21", () -> g.add(0, 0));
        CHECKS.throwsIndex("add 21, wrong package", () -> g.add(0, 9));
        CHECKS.due("waiting() 20", g.waiting(), 20);
        g.commit(0, false);
        CHECKS.due("waiting() behind a commit", g.waiting(), 0);
        CHECKS.due("one ADD of twenty goes", g.epoch(1, 5), 2);
        CHECKS.due("one ADD of twenty is sent", g.epoch(1, 6), 1);
        g.come(1);
        g.commit(1, false);
        CHECKS.throwsState("add(0, 0): not in the latest", () -> g.add(0, 0));
        CHECKS.due("a used package may be proposed", g.add(1, 0), 1);
    }

    // --- 4
    private static void remove() {
        RatchetGroup g = new RatchetGroup();
        for (int strange : STRANGE) {
            CHECKS.throwsIndex("remove(0, " + strange + ")", () -> g.remove(0, strange));
            CHECKS.throwsIndex("remove(" + strange + ", 0)", () -> g.remove(strange, 0));
        }
        CHECKS.throwsState("remove(1, 0): in none", () -> g.remove(1, 0));
        CHECKS.throwsIndex("remove(1, 16)", () -> g.remove(1, 16));
        for (int i = 0; i < 16; i++) {
            CHECKS.due("a leaf that is not there may be proposed", g.remove(0, i), i + 1);
        }
        for (int i = 16; i < 20; i++) {
            g.remove(0, 0);
        }
        CHECKS.throwsState("remove 21", () -> g.remove(0, 0));
        g.commit(0, false);
        CHECKS.due("none of these goes", g.epoch(1, 3), 0);
        CHECKS.due("the committer stays", g.member(0, 0), 1);
    }

    // --- 5
    private static void update() {
        RatchetGroup g = new RatchetGroup();
        for (int strange : STRANGE) {
            CHECKS.throwsIndex("update(" + strange + ")", () -> g.update(strange));
        }
        CHECKS.throwsState("update(1): in none", () -> g.update(1));
        for (int i = 1; i <= 20; i++) {
            CHECKS.due("update " + i, g.update(0), i);
            CHECKS.due("updates are held", g.member(0, 2), 2 + i);
        }
        CHECKS.throwsState("update 21", () -> g.update(0));
        CHECKS.due("no key for what threw", g.member(0, 2), 22);
        g.commit(0, false);
        CHECKS.due("the committer's own do not go", g.epoch(1, 4), 0);
        CHECKS.due("and are forgotten", g.member(0, 2), 2);
        RatchetGroup h = Groups.of(2, true);
        h.commit(0, true);
        CHECKS.throwsState("update(1): not in the latest", () -> h.update(1));
    }

    // --- 6
    private static void commitWhatItRefuses() {
        RatchetGroup g = new RatchetGroup();
        for (int strange : STRANGE) {
            CHECKS.throwsIndex("commit(" + strange + ")", () -> g.commit(strange, true));
        }
        CHECKS.throwsState("commit(1): in none", () -> g.commit(1, true));
        g.add(0, g.offer(1));
        CHECKS.due("commit", g.commit(0, true), 1);
        CHECKS.throwsState("commit(1): added, but has not come", () -> g.commit(1, true));
        for (int i = 2; i < 60; i++) {
            CHECKS.due("commit " + i, g.commit(0, i % 2 == 0), i);
        }
        CHECKS.due("epochs() 60", g.epochs(), 60);
        g.update(0);
        CHECKS.throwsState("commit 60", () -> g.commit(0, true));
        CHECKS.throwsIndex("commit 60 by nobody", () -> g.commit(16, true));
        CHECKS.due("what waits stays", g.waiting(), 1);
        CHECKS.due("epochs() 60, still", g.epochs(), 60);
        RatchetGroup h = Groups.of(2, true);
        h.commit(0, true);
        CHECKS.throwsState("commit(1): not in the latest", () -> h.commit(1, true));
    }

    private static void commitRemoves() {
        RatchetGroup g = Groups.of(8, true);
        nodesAre("a group of eight", g, 1, "kkkkk.kkk.k.k.k");
        g.remove(0, 5);
        g.remove(0, 5);
        g.remove(0, 1);
        g.remove(0, 9);
        g.commit(1, false);
        CHECKS.due("the committer's leaf stays, 5 goes once", g.epoch(2, 3), Groups.bits(5));
        CHECKS.due("a REMOVE brings a path", g.epoch(2, 2), Groups.bits(1, 3, 7));
        CHECKS.due("encrypted for 0, for 4 6, for 8 12 14", g.epoch(2, 6), 6);
        nodesAre("leaf 5 is removed", g, 2, "kkkkk.kkk...k.k");
        CHECKS.due("its member is out at once", g.member(5, 0), NONE);
        CHECKS.due("and holds nothing", g.member(5, 2), 0);
        CHECKS.due("others are where they were", g.member(6, 0), 1);
        Groups.allCome(g);
        g.remove(0, 7);
        g.remove(0, 4);
        g.commit(0, false);
        CHECKS.due("the right half has leaf 6", g.epoch(3, 0), 3);
        Groups.allCome(g);
        g.remove(0, 6);
        g.commit(0, false);
        CHECKS.due("the right half is blank", g.epoch(4, 0), 2);
        nodesAre("D is 2", g, 4, "kkkkk.k");
        Groups.allCome(g);
        g.remove(3, 2);
        g.remove(3, 1);
        g.remove(3, 0);
        g.commit(3, false);
        CHECKS.due("leaf 3 keeps D", g.epoch(5, 0), 2);
        nodesAre("leaf 3 alone", g, 5, "......k");
        CHECKS.due("nothing counts", g.epoch(5, 2), 0);
        CHECKS.due("three removed", g.epoch(5, 3), Groups.bits(0, 1, 2));
        RatchetGroup h = Groups.of(8, true);
        for (int i = 1; i < 8; i++) {
            h.remove(0, i);
        }
        h.commit(0, false);
        CHECKS.due("D falls by three at once", h.epoch(2, 0), 0);
        CHECKS.due("D of the epoch before stays", h.epoch(1, 0), 3);
        nodesAre("all but 0 are removed", h, 2, "k");
    }

    private static void commitUpdates() {
        RatchetGroup g = Groups.of(4, true);
        Groups.allCome(g);
        g.commit(2, true);
        Groups.allCome(g);
        nodesAre("a full tree of four", g, 2, "kkkkkkk");
        g.update(0);
        g.update(3);
        g.update(0);
        CHECKS.due("secret, leaf, two nodes, two updates", g.member(0, 2), 6);
        g.commit(3, false);
        CHECKS.due("the committer's does not go", g.epoch(3, 4), Groups.bits(0));
        CHECKS.due("an UPDATE brings a path", g.epoch(3, 2), Groups.bits(3, 5));
        CHECKS.due("encrypted for 4, for 0 2", g.epoch(3, 6), 3);
        nodesAre("the path of leaf 0 is blank, but for the committer's", g, 3, "k.kkkkk");
        int[] born = {3, NONE, 1, 3, 2, 3, 3};
        for (int i = 0; i < born.length; i++) {
            CHECKS.due("node(3, " + i + ", 2)", g.node(3, i, 2), born[i]);
        }
        CHECKS.due("it has not come: it holds both", g.member(0, 2), 6);
        CHECKS.due("come(0)", g.come(0), 3);
        CHECKS.yes("holds its new leaf key", g.holds(0, 0));
        CHECKS.yes("is told of node 3", g.holds(0, 3));
        CHECKS.due("secret, leaf, node 3", g.member(0, 2), 3);
        CHECKS.due("is not stuck", g.member(0, 3), 0);
        RatchetGroup both = Groups.of(2, true);
        both.update(1);
        both.add(0, both.offer(2));
        both.commit(0, false);
        CHECKS.due("an UPDATE brings a path, with an ADD, too", both.epoch(2, 2), Groups.bits(1, 3));
        RatchetGroup h = Groups.of(4, true);
        h.update(2);
        h.remove(0, 2);
        h.update(1);
        h.commit(0, false);
        CHECKS.due("none of a leaf that is removed", h.epoch(2, 4), Groups.bits(1));
        CHECKS.due("its REMOVE", h.epoch(2, 3), Groups.bits(2));
    }

    private static void commitAdds() {
        RatchetGroup g = new RatchetGroup();
        g.offer(0);
        g.offer(1);
        g.offer(1);
        g.offer(2);
        g.add(0, 0);
        g.commit(0, false);
        CHECKS.due("no ADD of one that has a leaf", g.epoch(1, 5), 0);
        CHECKS.due("nothing goes: the leaf's key is new", g.node(1, 0, 2), 1);
        g.add(0, 2);
        g.add(0, 1);
        g.add(0, 3);
        g.commit(0, false);
        CHECKS.due("one ADD of a member", g.epoch(2, 5), Groups.bits(1, 2));
        CHECKS.due("D", g.epoch(2, 0), 2);
        CHECKS.due("ADDs alone bring no path", g.node(2, 0, 2), 1);
        g.come(1);
        g.come(2);
        g.remove(0, 1);
        g.commit(0, false);
        g.add(0, 2);
        g.commit(0, false);
        CHECKS.due("a used package does not go again", g.epoch(4, 5), 0);
        g.add(0, 1);
        g.commit(0, true);
        CHECKS.due("the lowest blank leaf", g.epoch(5, 5), Groups.bits(1));
        CHECKS.due("joins by the other package", g.come(1), 5);
        CHECKS.due("at leaf", g.member(1, 1), 1);
        addOfOneThatIsBehind();
        addAndRemoveAtOnce();
    }

    private static void addOfOneThatIsBehind() {
        RatchetGroup g = Groups.of(3, true);
        g.commit(0, true);
        g.remove(0, 1);
        g.commit(0, true);
        int offered = g.offer(1);
        g.add(0, offered);
        g.commit(0, true);
        CHECKS.due("1 is in an epoch yet", g.member(1, 0), 1);
        CHECKS.due("so its ADD does not go", g.epoch(4, 5), 0);
        CHECKS.due("come(1)", g.come(1), 2);
        CHECKS.due("come(1), removed", g.come(1), NONE);
        CHECKS.due("both keys of its package", g.member(1, 2), 2);
        g.add(0, offered);
        g.commit(0, true);
        CHECKS.due("now it goes", g.epoch(5, 5), Groups.bits(1));
        CHECKS.due("come(1), added", g.come(1), 5);
    }

    private static void addAndRemoveAtOnce() {
        RatchetGroup g = Groups.of(4, true);
        g.add(2, g.offer(1));
        g.add(2, g.offer(9));
        g.remove(2, 1);
        g.remove(2, 0);
        g.commit(2, false);
        CHECKS.due("removed", g.epoch(2, 3), Groups.bits(0, 1));
        CHECKS.due("added", g.epoch(2, 5), Groups.bits(0, 1));
        CHECKS.due("not in the epoch before it comes", g.member(1, 0), NONE);
        CHECKS.due("come(1)", g.come(1), 2);
        CHECKS.due("the leaf that 0 had", g.member(1, 1), 0);
        CHECKS.due("come(9)", g.come(9), 2);
        CHECKS.due("the leaf that 1 had", g.member(9, 1), 1);
        CHECKS.throwsState("come(0)", () -> g.come(0));
        CHECKS.due("encrypted for 6, and twice for each ADD", g.epoch(2, 6), 5);
        RatchetGroup h = Groups.of(2, true);
        h.commit(0, true);
        h.add(0, h.offer(1));
        h.remove(0, 1);
        h.commit(0, true);
        CHECKS.due("no ADD of one that is behind, though its REMOVE goes", h.epoch(3, 5), 0);
        CHECKS.due("its REMOVE", h.epoch(3, 3), Groups.bits(1));
        RatchetGroup again = Groups.of(5, true);
        again.remove(0, 4);
        again.add(0, again.offer(7));
        again.commit(0, false);
        CHECKS.due("D falls and grows in one commit", again.epoch(2, 0), 3);
        CHECKS.due("leaf 4 is another's", again.epoch(2, 5), Groups.bits(4));
        CHECKS.due("the new top has a new key", again.node(2, 7, 2), 2);
    }

    private static void commitUnmerged() {
        RatchetGroup g = Groups.of(5, true);
        g.remove(0, 3);
        g.commit(0, false);
        Groups.allCome(g);
        g.add(0, g.offer(5));
        g.commit(0, false);
        CHECKS.due("added at leaf 3", g.epoch(3, 5), Groups.bits(3));
        CHECKS.due("no path", g.epoch(3, 2), 0);
        CHECKS.due("j alone is encrypted", g.epoch(3, 6), 1);
        CHECKS.due("unmerged in 3", g.node(3, 3, 1), Groups.bits(3));
        CHECKS.due("unmerged in 7", g.node(3, 7, 1), Groups.bits(3));
        CHECKS.due("not in a blank node", g.node(3, 5, 1), 0);
        CHECKS.due("not in the epoch before", g.node(2, 3, 1), 0);
        CHECKS.due("not in 1, which is not above it", g.node(3, 1, 1), 0);
        CHECKS.due("resolution of 3", g.node(3, 3, 3), 2);
        CHECKS.due("resolution of 5", g.node(3, 5, 3), 2);
        CHECKS.due("it keeps its key", g.node(3, 3, 2), 2);
        Groups.allCome(g);
        g.come(5);
        CHECKS.due("secret and leaf", g.member(5, 2), 2);
        CHECKS.no("not told of 3", g.holds(5, 3));
        CHECKS.yes("has the secret", g.has(5));
        g.commit(4, true);
        CHECKS.due("7 counts alone", g.epoch(4, 2), Groups.bits(7));
        CHECKS.due("encrypted for 3 and its unmerged leaf", g.epoch(4, 6), 2);
        CHECKS.due("nothing unmerged in 7", g.node(4, 7, 1), 0);
        CHECKS.due("unmerged in 3, still", g.node(4, 3, 1), Groups.bits(3));
        g.come(5);
        CHECKS.yes("told of 7", g.holds(5, 7));
        CHECKS.no("not of 3", g.holds(5, 3));
        g.update(5);
        Groups.allCome(g);
        g.commit(4, true);
        CHECKS.due("the UPDATE's path is blank", g.node(5, 3, 0), 0);
        CHECKS.due("encrypted for 1 4 6", g.epoch(5, 6), 3);
    }

    private static void commitPath() {
        RatchetGroup g = Groups.of(3, true);
        CHECKS.due("asked for", g.epoch(1, 2), Groups.bits(1, 3));
        CHECKS.due("none but the added", g.epoch(1, 6), 4);
        g.commit(2, false);
        CHECKS.due("of leaf 2, beside which nothing is", g.epoch(2, 2), Groups.bits(3));
        CHECKS.due("the one that does not count is blank", g.node(2, 5, 0), 0);
        CHECKS.due("encrypted for node 1", g.epoch(2, 6), 1);
        CHECKS.due("secret, leaf, node 3", g.member(2, 2), 3);
        g.commit(2, true);
        g.remove(2, 0);
        g.remove(2, 1);
        g.commit(2, false);
        CHECKS.due("none counts", g.epoch(4, 2), 0);
        CHECKS.due("nothing is encrypted", g.epoch(4, 6), 0);
        nodesAre("a leaf alone in its tree", g, 4, "....k..");
        RatchetGroup h = Groups.of(4, false);
        CHECKS.due("no path", h.epoch(1, 2), 0);
        CHECKS.due("no new leaf key", h.node(1, 0, 2), 0);
        nodesAre("no path", h, 1, "k.k.k.k");
        h.add(3, h.offer(4));
        h.commit(3, true);
        CHECKS.due("of leaf 3", h.epoch(2, 2), Groups.bits(5, 3, 7));
        CHECKS.due("encrypted for 4, for 0 2, and twice for the ADD", h.epoch(2, 6), 5);
        CHECKS.due("committer's leaf", h.epoch(2, 1), 3);
        h.come(4);
        CHECKS.yes("told of 7", h.holds(4, 7));
        CHECKS.due("secret, leaf, node 7", h.member(4, 2), 3);
        committerWithoutPathKeepsKeys();
        committerDropsBlankNodes();
    }

    private static void committerDropsBlankNodes() {
        RatchetGroup g = Groups.of(4, true);
        g.commit(3, true);
        CHECKS.due("secret, leaf, 5, 3", g.member(3, 2), 4);
        g.remove(3, 2);
        g.commit(3, false);
        CHECKS.due("5 is blank", g.node(3, 5, 0), 0);
        CHECKS.due("secret, leaf, 3", g.member(3, 2), 3);
        g.remove(3, 0);
        g.remove(3, 1);
        g.commit(3, false);
        CHECKS.due("secret, leaf", g.member(3, 2), 2);
    }

    private static void committerWithoutPathKeepsKeys() {
        RatchetGroup g = Groups.of(4, true);
        g.update(1);
        g.add(1, g.offer(4));
        g.commit(0, true);
        g.come(1);
        g.add(1, g.offer(5));
        g.commit(1, false);
        CHECKS.due("no path", g.epoch(3, 2), 0);
        CHECKS.due("in the new epoch", g.member(1, 0), 3);
        CHECKS.yes("has its secret", g.has(1));
        CHECKS.yes("its leaf", g.holds(1, 2));
        CHECKS.yes("node 1", g.holds(1, 1));
        CHECKS.yes("node 3", g.holds(1, 3));
        CHECKS.yes("node 7", g.holds(1, 7));
        CHECKS.due("and no more", g.member(1, 2), 5);
    }

    private static void commitFullTree() {
        RatchetGroup g = Groups.of(16, false);
        CHECKS.due("D", g.epoch(1, 0), 4);
        CHECKS.due("fifteen added", g.epoch(1, 5), 0xFFFE);
        CHECKS.due("fifteen sent", g.epoch(1, 6), 15);
        CHECKS.due("node 30", g.node(1, 30, 0), 1);
        CHECKS.due("node 31", g.node(1, 31, 0), NONE);
        CHECKS.due("resolution of the top", g.node(1, 15, 3), 16);
        g.add(0, g.offer(3));
        CHECKS.due("commit(15)", g.commit(15, false), 2);
        CHECKS.due("counting", g.epoch(2, 2), Groups.bits(29, 27, 23, 15));
        CHECKS.due("encrypted for all others", g.epoch(2, 6), 15);
        CHECKS.due("secret, leaf, four nodes", g.member(15, 2), 6);
        Groups.allCome(g);
        for (int i = 0; i < 16; i++) {
            CHECKS.yes("all are told of the top", g.holds(i, 15));
            CHECKS.due("node 23 is the right half's", g.holds(i, 23) ? 1 : 0, i >= 8 ? 1 : 0);
        }
        for (int i = 1; i < 16; i++) {
            g.remove(0, i);
        }
        g.commit(0, false);
        CHECKS.due("D falls by four", g.epoch(3, 0), 0);
        CHECKS.due("fifteen removed", g.epoch(3, 3), 0xFFFE);
        for (int i = 1; i < 16; i++) {
            g.add(0, g.offer(16 - i));
        }
        g.commit(0, true);
        CHECKS.due("D grows by four", g.epoch(4, 0), 4);
        CHECKS.due("thirty are sent", g.epoch(4, 6), 30);
        CHECKS.due("nodes of the old tree do not come back", g.node(4, 23, 0), 0);
        g.come(15);
        CHECKS.due("in the order of the ADDs", g.member(15, 1), 1);
    }

    // --- 7
    private static void come() {
        RatchetGroup g = new RatchetGroup();
        for (int strange : STRANGE) {
            CHECKS.throwsIndex("come(" + strange + ")", () -> g.come(strange));
        }
        CHECKS.throwsState("come(0): in the latest", () -> g.come(0));
        CHECKS.throwsState("come(1): in none", () -> g.come(1));
        int offered = g.offer(1);
        CHECKS.throwsState("come(1): not added", () -> g.come(1));
        g.add(0, offered);
        CHECKS.throwsState("come(1): proposed", () -> g.come(1));
        g.commit(0, true);
        g.commit(0, true);
        g.commit(0, true);
        CHECKS.due("come(1) joins", g.come(1), 1);
        CHECKS.due("its leaf", g.member(1, 1), 1);
        CHECKS.due("secret, leaf, node 1; the first key is dropped", g.member(1, 2), 3);
        CHECKS.due("come(1) again", g.come(1), 2);
        CHECKS.due("come(1) again", g.come(1), 3);
        CHECKS.yes("holds node 1", g.holds(1, 1));
        CHECKS.due("secret, leaf, node 1", g.member(1, 2), 3);
        CHECKS.throwsState("come(1) in the latest", () -> g.come(1));
        g.commit(1, true);
        g.remove(1, 0);
        g.commit(1, true);
        CHECKS.due("come(0)", g.come(0), 4);
        CHECKS.due("come(0), removed", g.come(0), NONE);
        CHECKS.due("and holds nothing", g.member(0, 2), 0);
        CHECKS.due("its leaf is none", g.member(0, 1), NONE);
        CHECKS.throwsState("come(0), and not added", () -> g.come(0));
    }

    private static void comeWhenAddedTwice() {
        RatchetGroup g = new RatchetGroup();
        int late = g.offer(1);
        int early = g.offer(1);
        g.add(0, early);
        g.commit(0, true);
        g.remove(0, 1);
        g.add(0, late);
        g.commit(0, true);
        CHECKS.due("removed and added before it came", g.epoch(2, 3), Groups.bits(1));
        CHECKS.due("removed and added before it came", g.epoch(2, 5), Groups.bits(1));
        CHECKS.due("both packages", g.member(1, 2), 4);
        CHECKS.due("joins the earliest", g.come(1), 1);
        CHECKS.due("secret, leaf, node 1, the other package", g.member(1, 2), 5);
        CHECKS.due("is removed", g.come(1), NONE);
        CHECKS.due("the other package", g.member(1, 2), 2);
        CHECKS.due("joins again", g.come(1), 2);
        CHECKS.due("secret, leaf, node 1", g.member(1, 2), 3);
        CHECKS.throwsState("there is no further one", () -> g.come(1));
    }

    private static void comeDropsKeys() {
        RatchetGroup g = Groups.of(5, true);
        CHECKS.due("secret, leaf, 1, 3, 7", g.member(0, 2), 5);
        CHECKS.due("secret, leaf, 3, 7", g.member(3, 2), 4);
        g.remove(3, 4);
        g.update(0);
        g.update(2);
        g.commit(3, false);
        CHECKS.due("D is less", g.epoch(2, 0), 2);
        g.come(0);
        CHECKS.due("secret, leaf, 3", g.member(0, 2), 3);
        CHECKS.no("1 is blank", g.holds(0, 1));
        CHECKS.no("7 is not there", g.holds(0, 7));
        CHECKS.yes("3 is new", g.holds(0, 3));
        g.come(2);
        CHECKS.due("secret, leaf, 5, 3", g.member(2, 2), 4);
        CHECKS.due("come(1)", g.come(1), 2);
        CHECKS.due("secret, leaf, 3", g.member(1, 2), 3);
        g.commit(1, true);
        CHECKS.due("come(0)", g.come(0), 3);
        CHECKS.due("secret, leaf, 1, 3", g.member(0, 2), 4);
        g.update(0);
        g.update(1);
        CHECKS.due("with an update", g.member(0, 2), 5);
        g.commit(1, true);
        g.come(0);
        CHECKS.due("the update is the leaf's key", g.member(0, 2), 4);
        CHECKS.due("got in", g.node(4, 0, 2), 4);
    }

    // --- 8
    private static void compromise() {
        RatchetGroup g = new RatchetGroup();
        for (int strange : STRANGE) {
            CHECKS.throwsIndex("compromise(" + strange + ")", () -> g.compromise(strange));
        }
        CHECKS.due("one that holds nothing", g.compromise(4), 0);
        CHECKS.due("known()", g.known(), 0);
        g.offer(0);
        g.update(0);
        CHECKS.due("secret, leaf, update, package", g.compromise(0), 5);
        CHECKS.due("again", g.compromise(0), 5);
        CHECKS.due("holds them yet", g.member(0, 2), 5);
        CHECKS.due("known()", g.known(), 1);
        CHECKS.yes("isOpen(0, 0)", g.isOpen(0, 0));
    }

    // --- 9
    private static void member() {
        RatchetGroup g = Groups.of(3, true);
        g.commit(1, true);
        for (int i = 0; i < 3; i++) {
            CHECKS.due("epoch of " + i, g.member(i, 0), i == 1 ? 2 : 1);
            CHECKS.due("leaf of " + i, g.member(i, 1), i);
            CHECKS.due("stuck " + i, g.member(i, 3), 0);
        }
        for (int strange : STRANGE) {
            CHECKS.due("member(0, " + strange + ")", g.member(0, strange), NONE);
            for (int what = 0; what < 4; what++) {
                CHECKS.due("member(" + strange + ", " + what + ")", g.member(strange, what), NONE);
            }
        }
        CHECKS.due("member(0, 4)", g.member(0, 4), NONE);
        CHECKS.due("in none: member(9, 3)", g.member(9, 3), 0);
    }

    // --- 10
    private static void holds() {
        RatchetGroup g = Groups.of(4, true);
        boolean[][] due = {
            {true, true, false, true, false, false, false},
            {false, true, true, true, false, false, false},
            {false, false, false, true, true, false, false},
            {false, false, false, true, false, false, true}};
        for (int m = 0; m < 4; m++) {
            for (int x = 0; x < 7; x++) {
                CHECKS.due("holds(" + m + ", " + x + ")", g.holds(m, x) ? 1 : 0, due[m][x] ? 1 : 0);
            }
        }
        for (int strange : STRANGE) {
            CHECKS.no("holds(0, " + strange + ")", g.holds(0, strange));
            CHECKS.no("holds(" + strange + ", 0)", g.holds(strange, 0));
        }
        CHECKS.no("in none", g.holds(9, 0));
        g.commit(3, true);
        CHECKS.yes("in its own epoch's tree", g.holds(0, 3));
        g.remove(3, 0);
        g.commit(3, true);
        CHECKS.yes("removed, but has not come to it", g.holds(0, 0));
    }

    // --- 11
    private static void has() {
        RatchetGroup g = Groups.of(3, true);
        CHECKS.yes("has(2)", g.has(2));
        CHECKS.no("has(3)", g.has(3));
        g.add(0, g.offer(3));
        g.remove(0, 2);
        g.commit(0, false);
        CHECKS.yes("the committer", g.has(0));
        CHECKS.yes("one that is behind", g.has(1));
        CHECKS.no("one that was removed", g.has(2));
        CHECKS.no("one that has not come", g.has(3));
        g.come(3);
        g.come(1);
        CHECKS.yes("has(3)", g.has(3));
        CHECKS.yes("has(1)", g.has(1));
        for (int strange : STRANGE) {
            CHECKS.no("has(" + strange + ")", g.has(strange));
        }
    }

    // --- 12
    private static void node() {
        RatchetGroup g = Groups.of(3, true);
        long[][] due = {
            {1, 1, 1, 1, 1, 0, 0},
            {0, 0, 0, 0, 0, 0, 0},
            {1, 1, 1, 1, 1, NONE, NONE},
            {1, 1, 1, 1, 1, 1, 0}};
        for (int what = 0; what < 4; what++) {
            for (int x = 0; x < 7; x++) {
                CHECKS.due("node(1, " + x + ", " + what + ")", g.node(1, x, what), due[what][x]);
            }
        }
        for (int strange : STRANGE) {
            CHECKS.due("node(" + strange + ", 0, 0)", g.node(strange, 0, 0), NONE);
            CHECKS.due("node(1, 0, " + strange + ")", g.node(1, 0, strange), NONE);
            for (int what = 0; what < 4; what++) {
                CHECKS.due("node(1, " + strange + ", " + what + ")", g.node(1, strange, what), NONE);
            }
        }
        CHECKS.due("node(1, 7, 0)", g.node(1, 7, 0), NONE);
        CHECKS.due("node(1, 0, 4)", g.node(1, 0, 4), NONE);
        CHECKS.due("node(2, 0, 0)", g.node(2, 0, 0), NONE);
        CHECKS.due("node(0, 1, 0)", g.node(0, 1, 0), NONE);
        CHECKS.due("node(0, 0, 2)", g.node(0, 0, 2), 0);
    }

    // --- 13
    private static void epoch() {
        RatchetGroup g = Groups.of(4, true);
        g.update(1);
        g.remove(1, 3);
        g.add(1, g.offer(6));
        g.commit(2, false);
        long[] due = {2, 2, Groups.bits(5, 3), Groups.bits(3), Groups.bits(1), Groups.bits(3), 4};
        for (int what = 0; what < due.length; what++) {
            CHECKS.due("epoch(2, " + what + ")", g.epoch(2, what), due[what]);
        }
        for (int strange : STRANGE) {
            CHECKS.due("epoch(2, " + strange + ")", g.epoch(2, strange), NONE);
            for (int what = 0; what < 7; what++) {
                CHECKS.due("epoch(" + strange + ", " + what + ")", g.epoch(strange, what), NONE);
            }
        }
        CHECKS.due("epoch(2, 7)", g.epoch(2, 7), NONE);
        CHECKS.due("epoch(3, 0)", g.epoch(3, 0), NONE);
    }

    // --- 14, 15
    private static void epochsAndWaiting() {
        RatchetGroup g = Groups.of(2, true);
        CHECKS.due("epochs()", g.epochs(), 2);
        g.update(1);
        g.remove(0, 1);
        g.add(1, 0);
        CHECKS.due("waiting()", g.waiting(), 3);
        g.commit(0, true);
        CHECKS.due("epochs()", g.epochs(), 3);
        CHECKS.due("waiting()", g.waiting(), 0);
    }

    // --- 16, 17, 18
    private static void intruderByPackage() {
        RatchetGroup g = new RatchetGroup();
        int offered = g.offer(1);
        CHECKS.due("two keys", g.compromise(1), 2);
        CHECKS.due("known()", g.known(), 0);
        g.add(0, offered);
        g.commit(0, true);
        CHECKS.yes("by the first key", g.isKnown(1));
        CHECKS.no("not what was before", g.isKnown(0));
        CHECKS.yes("the leaf's key", g.isOpen(1, 2));
        CHECKS.yes("by the path secret", g.isOpen(1, 1));
        CHECKS.no("not the committer's leaf", g.isOpen(1, 0));
        CHECKS.due("known()", g.known(), 1);
        RatchetGroup h = new RatchetGroup();
        h.offer(1);
        h.compromise(1);
        h.add(0, h.offer(1));
        h.commit(0, true);
        CHECKS.no("another package", h.isKnown(1));
        RatchetGroup joined = Groups.of(2, false);
        CHECKS.due("the first key is forgotten", joined.compromise(1), 2);
        CHECKS.yes("it holds the secret", joined.isKnown(1));
    }

    private static void intruderByLeafKey() {
        RatchetGroup g = Groups.of(3, true);
        CHECKS.due("secret, leaf, node 3", g.compromise(2), 3);
        CHECKS.yes("isKnown(1)", g.isKnown(1));
        CHECKS.no("isKnown(0)", g.isKnown(0));
        boolean[] open = {false, false, false, true, true, false, false};
        for (int x = 0; x < open.length; x++) {
            CHECKS.due("isOpen(1, " + x + ")", g.isOpen(1, x) ? 1 : 0, open[x] ? 1 : 0);
        }
        g.commit(0, true);
        CHECKS.yes("its path secret is encrypted for leaf 2", g.isKnown(2));
        CHECKS.yes("isOpen(2, 3)", g.isOpen(2, 3));
        CHECKS.no("isOpen(2, 1)", g.isOpen(2, 1));
        CHECKS.no("isOpen(2, 0)", g.isOpen(2, 0));
        RatchetGroup below = Groups.of(3, false);
        below.compromise(1);
        below.commit(0, true);
        CHECKS.yes("the lowest path secret is encrypted for leaf 1", below.isOpen(2, 1));
        CHECKS.yes("the others are NEXT of it", below.isOpen(2, 3));
        Groups.allCome(g);
        g.commit(2, true);
        CHECKS.no("2 has made its keys new", g.isKnown(3));
        CHECKS.no("isOpen(3, 4)", g.isOpen(3, 4));
        CHECKS.no("isOpen(3, 3)", g.isOpen(3, 3));
        CHECKS.due("known()", g.known(), 2);
        Groups.allCome(g);
        g.compromise(0);
        CHECKS.yes("isKnown(3)", g.isKnown(3));
        CHECKS.yes("isOpen(3, 1)", g.isOpen(3, 1));
        CHECKS.yes("the same key in the epoch before", g.isOpen(2, 1));
        CHECKS.due("known()", g.known(), 3);
        for (int strange : STRANGE) {
            CHECKS.no("isKnown(" + strange + ")", g.isKnown(strange));
            CHECKS.no("isOpen(" + strange + ", 0)", g.isOpen(strange, 0));
            CHECKS.no("isOpen(3, " + strange + ")", g.isOpen(3, strange));
        }
        CHECKS.no("isKnown(4)", g.isKnown(4));
        CHECKS.no("a blank node", g.isOpen(3, 5));
    }

    private static void intruderByEpochSecret() {
        RatchetGroup g = new RatchetGroup();
        g.compromise(0);
        g.add(0, g.offer(1));
        g.commit(0, false);
        CHECKS.yes("c is ZERO", g.isKnown(1));
        CHECKS.no("the new leaf's key is not told", g.isOpen(1, 2));
        CHECKS.yes("0's leaf has its old key", g.isOpen(1, 0));
        g.add(0, g.offer(2));
        g.commit(0, true);
        CHECKS.no("c is new", g.isKnown(2));
        g.add(0, g.offer(3));
        g.commit(0, false);
        CHECKS.no("ZERO alone is not enough", g.isKnown(3));
        CHECKS.due("known()", g.known(), 2);
        RatchetGroup alone = new RatchetGroup();
        alone.compromise(0);
        alone.commit(0, false);
        CHECKS.no("c is FRESH", alone.isKnown(1));
        CHECKS.no("and so is the leaf's key", alone.isOpen(1, 0));
        RatchetGroup behind = Groups.of(2, true);
        behind.commit(0, true);
        behind.commit(0, true);
        CHECKS.due("told afterwards", behind.compromise(1), 3);
        CHECKS.due("all but the first are known", behind.known(), 3);
        CHECKS.no("isKnown(0)", behind.isKnown(0));
    }

    private static void intruderByUpdate() {
        RatchetGroup g = Groups.of(3, true);
        g.compromise(2);
        g.update(2);
        g.commit(0, false);
        CHECKS.no("the new key was not told", g.isKnown(2));
        CHECKS.no("isOpen(2, 4)", g.isOpen(2, 4));
        RatchetGroup h = Groups.of(3, true);
        h.update(2);
        CHECKS.due("secret, leaf, node 3, update", h.compromise(2), 4);
        h.commit(0, false);
        CHECKS.yes("the new key was told", h.isKnown(2));
        CHECKS.yes("isOpen(2, 4)", h.isOpen(2, 4));
        CHECKS.no("isOpen(2, 2)", h.isOpen(2, 2));
    }

    private static void intruderAndRemoval() {
        RatchetGroup g = Groups.of(4, true);
        g.compromise(3);
        g.remove(0, 3);
        g.commit(0, false);
        CHECKS.no("a removed member's keys are worth nothing", g.isKnown(2));
        CHECKS.no("isOpen(2, 3)", g.isOpen(2, 3));
        CHECKS.due("a removed member holds nothing", g.compromise(3), 0);
        CHECKS.due("known()", g.known(), 1);
        RatchetGroup late = Groups.of(4, true);
        late.commit(1, true);
        late.remove(1, 3);
        late.commit(1, false);
        late.compromise(3);
        CHECKS.yes("it has not come: its own epoch", late.isKnown(1));
        CHECKS.yes("and the next", late.isKnown(2));
        CHECKS.no("but not the one in which it was removed", late.isKnown(3));
    }

    /** Whatever the arguments, nothing but the two exceptions comes out, in states from first to last. */
    private static void strangeArgumentsEverywhere() {
        int[] odd = {Integer.MIN_VALUE, -1, 0, 1, 15, 16, 30, 31, Integer.MAX_VALUE};
        for (int size : new int[] {1, 2, 16}) {
            for (int a : odd) {
                RatchetGroup g = Groups.of(size, size > 2);
                for (int b : odd) {
                    fine(Checks.answer(() -> g.add(a, b)));
                    fine(Checks.answer(() -> g.remove(a, b)));
                    fine(g.member(a, b));
                    fine(g.epoch(a, b));
                    fine(Checks.answer(() -> g.holds(a, b) ? 1 : 0));
                    fine(Checks.answer(() -> g.isOpen(a, b) ? 1 : 0));
                    fine(g.node(a, b, a));
                }
                fine(Checks.answer(() -> g.offer(a)));
                fine(Checks.answer(() -> g.update(a)));
                fine(Checks.answer(() -> g.come(a)));
                fine(Checks.answer(() -> g.commit(a, a > 0)));
                fine(Checks.answer(() -> g.compromise(a)));
            }
        }
    }

    private static void fine(long answer) {
        CHECKS.due("a strange call's exception", answer == Checks.OTHER ? 1 : 0, 0);
    }
}
