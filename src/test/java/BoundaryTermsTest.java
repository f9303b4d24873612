/**
 * The boundary cases that the document's chapter Terms names, each sentence with a test of its own: what a
 * tree has, which proposals go, what a commit does, who holds what, and what the intruder knows.
 */
public final class BoundaryTermsTest {
    private static final int NONE = RatchetGroup.NONE;
    private static final int[] DEPTH_OF_SIZE = {0, 0, 1, 2, 2, 3, 3, 3, 3, 4, 4, 4, 4, 4, 4, 4, 4};

    private static final Checks CHECKS = new Checks("BoundaryTermsTest");

    public static void main(String[] args) {
        nodesOfEachDepth();
        pathOfEachLeaf();
        resolutionOfAKey();
        resolutionOfABlankLeaf();
        resolutionOfABlankNode();
        packageHasTwoSecrets();
        allProposalsGoWithACommit();
        removeOfABlankLeaf();
        removeOfTheCommittersLeaf();
        removeOfALeafTwice();
        updateOfTheCommitter();
        updateThatIsNotTheLatest();
        updateOfALeafThatIsRemoved();
        addOfAUsedPackage();
        addOfOneThatHasALeaf();
        addOfOneThatIsInAnEpoch();
        addOfOneInTheLatestEpoch();
        addOfOneThatHasAnotherAdd();
        addWhenTheTreeWasFull();
        removedLeafIsBlankWithItsPath();
        removedMemberIsOutAtOnceOrWhenItComes();
        rightHalfIsBlank();
        rightHalfHasALeaf();
        depthIsNotBelowZero();
        updatedLeafHasABlankPath();
        addedAtTheLowestBlankLeaf();
        growthBringsBlankNodes();
        depthIsNotAboveFour();
        shrinksAndGrowsInOneCommit();
        addedIsUnmergedWhereAKeyIs();
        pathIsAskedFor();
        pathForARemove();
        pathForAnUpdate();
        pathIfNothingGoes();
        noPathForAddsAlone();
        nodesThatDoNotCountAreBlank();
        freshIfNoneCounts();
        eachFurtherPathSecretIsNext();
        keyDoesNotGiveItsPathSecret();
        nothingUnmergedInNodesThatCount();
        notEncryptedForAddedLeaves();
        zeroWithoutAPath();
        joinerNeedsBoth();
        joinerIsEncryptedForEachAdd();
        committerHoldsItsPath();
        committerKeepsWhatItHeld();
        comesAndWasRemoved();
        comesAndDropsKeys();
        comesAndHasItsUpdate();
        comesAndItsUpdateDoesNotGo();
        comesAndIsToldFromTheLowest();
        comesAndIsNeverStuck();
        joinsWithAPath();
        joinsWithoutAPath();
        intruderKnowsWhatWasSentBefore();
        forgottenIsNotTold();
        CHECKS.end();
    }

    private static void nodesAre(String when, RatchetGroup g, int epoch, String keys) {
        for (int i = 0; i < keys.length(); i++) {
            CHECKS.due(when + ": node(" + epoch + ", " + i + ", 0)", g.node(epoch, i, 0), keys.charAt(i) == 'k' ? 1 : 0);
        }
        CHECKS.due(when + ": one node more", g.node(epoch, keys.length(), 0), NONE);
    }

    private static int heightOf(int node) {
        int height = 0;
        while ((node >> height & 1) == 1) {
            height++;
        }
        return height;
    }

    /** The node of which this one is one of the two below it. */
    private static int above(int node) {
        int step = 1 << heightOf(node);
        return heightOf(node + step) == heightOf(node) + 1 ? node + step : node - step;
    }

    // --- THE TREE

    private static void nodesOfEachDepth() {
        CHECKS.sentence("D 0 .. 4, and 2^D leaves; its nodes are 0 .. 2^(D+1) - 2, leaf i is node 2 i");
        for (int size = 1; size <= 16; size++) {
            RatchetGroup g = Groups.of(size, false);
            int d = DEPTH_OF_SIZE[size];
            int last = (1 << (d + 1)) - 2;
            CHECKS.due("D of " + size, g.epoch(1, 0), d);
            CHECKS.due("node(1, -1, 0)", g.node(1, -1, 0), NONE);
            CHECKS.due("the last node is a leaf", g.node(1, last, 0), size == 1 << d ? 1 : 0);
            CHECKS.due("one node more", g.node(1, last + 1, 0), NONE);
            for (int leaf = 0; leaf < 1 << d; leaf++) {
                CHECKS.due("leaf " + leaf + " of " + size, g.node(1, 2 * leaf, 0), leaf < size ? 1 : 0);
            }
            for (int m = 0; m < size; m++) {
                CHECKS.yes("holds its leaf's key", g.holds(m, 2 * m));
            }
        }
    }

    private static void pathOfEachLeaf() {
        CHECKS.sentence("the two nodes below one of height h are it less and more 2^(h-1); PATH: the nodes above it");
        for (int leaf = 0; leaf < 16; leaf++) {
            RatchetGroup g = Groups.of(16, false);
            g.commit(leaf, true);
            int due = 0;
            int at = 2 * leaf;
            for (int height = 1; height <= 4; height++) {
                at = above(at);
                due |= Groups.bits(at);
            }
            CHECKS.due("the path of leaf " + leaf, g.epoch(2, 2), due);
            CHECKS.due("goes to the top", at, 15);
            CHECKS.due("secret, leaf, four nodes", g.member(leaf, 2), 6);
        }
    }

    private static void resolutionOfAKey() {
        CHECKS.sentence("Its RESOLUTION: it, and its unmerged leaves, if it has a key");
        RatchetGroup g = Groups.of(8, true);
        for (int leaf = 1; leaf < 4; leaf++) {
            g.remove(4, leaf);
        }
        g.commit(4, false);
        CHECKS.due("node 7 alone", g.node(2, 7, 3), 1);
        CHECKS.due("a leaf alone", g.node(2, 0, 3), 1);
        for (int m = 9; m < 12; m++) {
            g.add(4, g.offer(m));
        }
        g.commit(4, false);
        CHECKS.due("three are unmerged in 7", g.node(3, 7, 1), Groups.bits(1, 2, 3));
        CHECKS.due("node 7 and three leaves", g.node(3, 7, 3), 4);
    }

    private static void resolutionOfABlankLeaf() {
        CHECKS.sentence("RESOLUTION: nothing for a leaf that is blank");
        RatchetGroup g = Groups.of(3, true);
        CHECKS.due("leaf 3 was never had", g.node(1, 6, 3), 0);
        g.remove(0, 1);
        g.commit(0, true);
        CHECKS.due("leaf 1 was removed", g.node(2, 2, 3), 0);
        CHECKS.due("leaf 1 in the epoch before", g.node(1, 2, 3), 1);
    }

    private static void resolutionOfABlankNode() {
        CHECKS.sentence("RESOLUTION: else the resolutions of the two below");
        RatchetGroup g = Groups.of(16, false);
        int[] due = {1, 2, 4, 8, 16};
        for (int node = 0; node < 31; node++) {
            CHECKS.due("all others are blank: node(1, " + node + ", 3)", g.node(1, node, 3), due[heightOf(node)]);
        }
        RatchetGroup nine = Groups.of(9, true);
        CHECKS.due("one leaf below 23", nine.node(1, 23, 3), 1);
        CHECKS.due("nothing below 27", nine.node(1, 27, 3), 0);
        CHECKS.due("nothing below 21", nine.node(1, 21, 3), 0);
    }

    // --- PACKAGES and PROPOSALS

    private static void packageHasTwoSecrets() {
        CHECKS.sentence("two FRESH secrets, first key, then leaf key");
        RatchetGroup g = new RatchetGroup();
        for (int i = 1; i <= 60; i++) {
            g.offer(9);
            CHECKS.due("of " + i + " packages", g.member(9, 2), 2 * i);
        }
        CHECKS.due("others hold none of them", g.member(8, 2), 0);
        RatchetGroup told = new RatchetGroup();
        told.offer(1);
        told.offer(1);
        told.compromise(1);
        told.add(0, told.offer(1));
        told.commit(0, false);
        CHECKS.no("a third one's first key", told.isKnown(1));
        CHECKS.no("a third one's leaf key", told.isOpen(1, 2));
        told.remove(0, 1);
        told.add(0, 1);
        told.commit(0, false);
        CHECKS.yes("its first key", told.isKnown(2));
        CHECKS.yes("its leaf key", told.isOpen(2, 2));
    }

    private static void allProposalsGoWithACommit() {
        CHECKS.sentence("With a COMMIT all go");
        RatchetGroup g = new RatchetGroup();
        g.offer(1);
        g.remove(0, 1);
        g.update(0);
        g.commit(0, true);
        CHECKS.due("waiting()", g.waiting(), 0);
        g.add(0, 0);
        g.commit(0, false);
        CHECKS.due("the REMOVE of leaf 1 is no more", g.epoch(2, 3), 0);
        g.come(1);
        g.commit(1, false);
        CHECKS.due("nor is the UPDATE of leaf 0", g.epoch(3, 4), 0);
        CHECKS.due("nor is the ADD", g.epoch(3, 5), 0);
    }

    // --- which ones GO

    private static void removeOfABlankLeaf() {
        CHECKS.sentence("those GO that can: a REMOVE of a leaf that is not blank");
        RatchetGroup g = Groups.of(3, true);
        g.remove(0, 3);
        g.remove(0, 4);
        g.remove(0, 15);
        g.commit(0, false);
        CHECKS.due("a blank leaf, and such as are not there", g.epoch(2, 3), 0);
        CHECKS.due("D", g.epoch(2, 0), 2);
        g.remove(0, 3);
        g.add(0, g.offer(7));
        g.commit(0, false);
        CHECKS.due("blank yet when it is to be removed", g.epoch(3, 3), 0);
        CHECKS.due("and had when all is done", g.epoch(3, 5), Groups.bits(3));
        g.remove(0, 3);
        g.commit(0, false);
        CHECKS.due("not blank any more", g.epoch(4, 3), Groups.bits(3));
    }

    private static void removeOfTheCommittersLeaf() {
        CHECKS.sentence("a REMOVE of a leaf that is not the committer's");
        for (int committer = 0; committer < 2; committer++) {
            RatchetGroup g = Groups.of(2, true);
            g.remove(0, 0);
            g.remove(0, 1);
            g.remove(1, 1);
            g.remove(1, 0);
            g.commit(committer, false);
            CHECKS.due("the other one's goes", g.epoch(2, 3), Groups.bits(1 - committer));
            CHECKS.due("the committer stays", g.member(committer, 0), 2);
            CHECKS.due("the other one is out", g.member(1 - committer, 0), NONE);
        }
    }

    private static void removeOfALeafTwice() {
        CHECKS.sentence("a REMOVE of a leaf of which no REMOVE goes");
        RatchetGroup g = Groups.of(4, true);
        g.remove(0, 2);
        g.remove(3, 2);
        g.add(0, g.offer(9));
        g.remove(1, 2);
        g.commit(0, false);
        CHECKS.due("removed", g.epoch(2, 3), Groups.bits(2));
        CHECKS.due("added there, and not removed again", g.epoch(2, 5), Groups.bits(2));
        CHECKS.due("come(9)", g.come(9), 2);
    }

    private static void updateOfTheCommitter() {
        CHECKS.sentence("an UPDATE that is not the committer's");
        for (int committer = 0; committer < 2; committer++) {
            RatchetGroup g = Groups.of(2, true);
            g.update(0);
            g.update(1);
            g.commit(committer, false);
            CHECKS.due("the other one's goes", g.epoch(2, 4), Groups.bits(1 - committer));
            CHECKS.due("the committer's is forgotten", g.member(committer, 2), 3);
        }
        RatchetGroup told = new RatchetGroup();
        told.update(0);
        told.compromise(0);
        told.commit(0, false);
        CHECKS.no("its leaf's key is another", told.isOpen(1, 0));
    }

    private static void updateThatIsNotTheLatest() {
        CHECKS.sentence("an UPDATE that is the latest one of its leaf");
        RatchetGroup early = Groups.of(3, true);
        early.update(2);
        early.compromise(2);
        early.update(2);
        early.commit(0, false);
        CHECKS.no("the first one was told: isOpen(2, 4)", early.isOpen(2, 4));
        CHECKS.no("the first one was told: isKnown(2)", early.isKnown(2));
        RatchetGroup late = Groups.of(3, true);
        late.update(2);
        late.update(2);
        late.update(1);
        late.compromise(2);
        late.commit(0, false);
        CHECKS.yes("the latest one was told: isOpen(2, 4)", late.isOpen(2, 4));
        CHECKS.yes("the latest one was told: isKnown(2)", late.isKnown(2));
        CHECKS.due("one of each leaf", late.epoch(2, 4), Groups.bits(1, 2));
    }

    private static void updateOfALeafThatIsRemoved() {
        CHECKS.sentence("an UPDATE of a leaf of which no REMOVE goes");
        for (int first = 0; first < 2; first++) {
            RatchetGroup g = Groups.of(4, true);
            if (first == 0) {
                g.remove(0, 2);
            }
            g.update(2);
            g.remove(0, 2);
            g.commit(0, false);
            CHECKS.due("removed", g.epoch(2, 3), Groups.bits(2));
            CHECKS.due("not updated", g.epoch(2, 4), 0);
            CHECKS.due("its leaf is blank", g.node(2, 4, 0), 0);
        }
        RatchetGroup again = Groups.of(3, true);
        again.update(1);
        again.remove(0, 1);
        again.add(0, again.offer(9));
        again.commit(0, false);
        CHECKS.due("nor is who has the leaf then", again.epoch(2, 4), 0);
        again.come(9);
        CHECKS.yes("it has its package's key", again.holds(9, 2));
    }

    private static void addOfAUsedPackage() {
        CHECKS.sentence("an ADD of a package that has not been used");
        RatchetGroup g = Groups.of(2, true);
        g.remove(0, 1);
        g.commit(0, true);
        g.add(0, 0);
        g.commit(0, false);
        CHECKS.due("used", g.epoch(3, 5), 0);
        g.remove(0, 5);
        g.add(0, g.offer(1));
        g.commit(0, false);
        CHECKS.due("another one", g.epoch(4, 5), Groups.bits(1));
        RatchetGroup unused = new RatchetGroup();
        unused.offer(0);
        unused.offer(1);
        unused.add(0, 0);
        unused.commit(0, false);
        CHECKS.due("proposed, did not go", unused.epoch(1, 5), 0);
        unused.add(0, 1);
        unused.commit(0, false);
        unused.come(1);
        unused.remove(1, 0);
        unused.add(1, 0);
        unused.commit(1, false);
        CHECKS.due("what did not go is not used", unused.epoch(3, 5), Groups.bits(0));
    }

    private static void addOfOneThatHasALeaf() {
        CHECKS.sentence("an ADD whose member has no leaf (when all REMOVEs are done)");
        RatchetGroup g = new RatchetGroup();
        for (int i = 0; i < 4; i++) {
            g.offer(1);
        }
        g.add(0, 0);
        g.commit(0, false);
        g.add(0, 1);
        g.commit(0, false);
        CHECKS.due("has a leaf, though it has not come", g.epoch(2, 5), 0);
        g.add(0, 1);
        g.remove(0, 1);
        g.commit(0, false);
        CHECKS.due("has none when the REMOVE behind it is done", g.epoch(3, 5), Groups.bits(1));
        g.come(1);
        g.come(1);
        CHECKS.due("removed from the first", g.come(1), NONE);
        CHECKS.due("joins the second", g.come(1), 3);
        g.add(1, 2);
        g.commit(0, false);
        CHECKS.due("has a leaf, and has come", g.epoch(4, 5), 0);
        for (int leaf = 0; leaf < 16; leaf++) {
            addOfOneThatHasNotComeTo(leaf);
        }
    }

    private static void addOfOneThatHasNotComeTo(int leaf) {
        int by = leaf == 0 ? 15 : 0;
        RatchetGroup g = Groups.of(16, false);
        g.remove(by, leaf);
        g.add(by, g.offer(leaf));
        g.add(by, g.offer(leaf));
        g.commit(by, false);
        CHECKS.due("added", g.epoch(2, 5), Groups.bits(leaf));
        CHECKS.due("one is sent for it, and one for each of the others", g.epoch(2, 6), 14 + 2);
        g.remove(by, leaf == 8 ? 9 : 8);
        g.add(by, 16);
        g.commit(by, false);
        CHECKS.due("has leaf " + leaf + ", though it has not come", g.epoch(3, 5), 0);
    }

    private static void addOfOneThatIsInAnEpoch() {
        CHECKS.sentence("an ADD whose member is in no epoch");
        RatchetGroup g = Groups.of(2, true);
        g.commit(0, true);
        g.offer(1);
        g.remove(0, 1);
        g.add(0, 1);
        g.commit(0, false);
        CHECKS.due("behind, and its REMOVE goes", g.epoch(3, 3), Groups.bits(1));
        CHECKS.due("behind, and its REMOVE goes", g.epoch(3, 5), 0);
        g.add(0, 1);
        g.commit(0, false);
        CHECKS.due("behind, and has no leaf", g.epoch(4, 5), 0);
        g.come(1);
        g.add(0, 1);
        g.commit(0, false);
        CHECKS.due("behind by one", g.epoch(5, 5), 0);
        g.come(1);
        g.add(0, 1);
        g.commit(0, false);
        CHECKS.due("in none", g.epoch(6, 5), Groups.bits(1));
    }

    private static void addOfOneInTheLatestEpoch() {
        CHECKS.sentence("(but for the latest one, if its REMOVE goes)");
        RatchetGroup g = Groups.of(3, true);
        g.add(0, g.offer(1));
        g.remove(0, 1);
        g.commit(0, false);
        CHECKS.due("its REMOVE goes", g.epoch(2, 5), Groups.bits(1));
        CHECKS.due("out, until it comes", g.member(1, 0), NONE);
        CHECKS.due("come(1)", g.come(1), 2);
        RatchetGroup own = Groups.of(3, true);
        own.add(0, own.offer(0));
        own.remove(0, 0);
        own.commit(0, false);
        CHECKS.due("the committer's REMOVE does not go", own.epoch(2, 5), 0);
        CHECKS.due("the committer stays at its leaf", own.member(0, 1), 0);
    }

    private static void addOfOneThatHasAnotherAdd() {
        CHECKS.sentence("an ADD whose member has no other ADD that goes");
        RatchetGroup g = new RatchetGroup();
        g.offer(1);
        g.offer(1);
        g.offer(2);
        g.add(0, 1);
        g.add(0, 0);
        g.add(0, 1);
        g.add(0, 2);
        g.commit(0, false);
        CHECKS.due("one of each member", g.epoch(1, 5), Groups.bits(1, 2));
        CHECKS.due("one is sent for each", g.epoch(1, 6), 2);
        g.remove(0, 1);
        g.commit(0, false);
        g.add(0, 1);
        g.commit(0, false);
        CHECKS.due("the first of the row is used", g.epoch(3, 5), 0);
        g.add(0, 0);
        g.commit(0, false);
        CHECKS.due("the other one is not", g.epoch(4, 5), Groups.bits(1));
    }

    private static void addWhenTheTreeWasFull() {
        CHECKS.sentence("an ADD for whom there is a leaf");
        RatchetGroup g = Groups.of(16, false);
        g.remove(0, 15);
        g.add(0, g.offer(15));
        g.commit(0, false);
        CHECKS.due("the last leaf", g.epoch(2, 5), Groups.bits(15));
        CHECKS.due("D falls no further than it has to, and grows no further", g.epoch(2, 0), 4);
        CHECKS.due("come(15)", g.come(15), 2);
        CHECKS.due("member(15, 1)", g.member(15, 1), 15);
    }

    // --- what a COMMIT does on the tree

    private static void removedLeafIsBlankWithItsPath() {
        CHECKS.sentence("all REMOVEs: the leaf is blank, with its path");
        RatchetGroup g = Groups.of(8, true);
        g.commit(6, true);
        Groups.allCome(g);
        nodesAre("before", g, 2, "kkkkk.kkk.kkkkk");
        g.remove(0, 2);
        g.commit(7, false);
        nodesAre("leaf 2", g, 3, "kkk...kkk.kkkkk");
        Groups.allCome(g);
        g.remove(0, 5);
        g.remove(0, 6);
        g.commit(0, false);
        nodesAre("leaves 5 and 6", g, 4, "kkkk..kkk.....k");
        CHECKS.due("7 is the committer's again", g.node(4, 7, 2), 4);
        CHECKS.due("the epoch before is as it was", g.node(3, 13, 0), 1);
    }

    private static void removedMemberIsOutAtOnceOrWhenItComes() {
        CHECKS.sentence("its member is in no epoch from now on if it is in the latest one, else when it comes to it");
        RatchetGroup g = Groups.of(3, true);
        g.commit(0, true);
        g.come(1);
        g.remove(0, 1);
        g.remove(0, 2);
        g.commit(0, true);
        CHECKS.due("it was in the latest one", g.member(1, 0), NONE);
        CHECKS.due("and holds nothing", g.member(1, 2), 0);
        CHECKS.due("it was behind", g.member(2, 0), 1);
        CHECKS.due("and holds what it held", g.member(2, 2), 3);
        CHECKS.due("come(2)", g.come(2), 2);
        CHECKS.yes("has(2)", g.has(2));
        CHECKS.due("come(2)", g.come(2), NONE);
        CHECKS.due("member(2, 2)", g.member(2, 2), 0);
        RatchetGroup never = new RatchetGroup();
        never.add(0, never.offer(1));
        never.commit(0, true);
        never.remove(0, 1);
        never.commit(0, true);
        CHECKS.due("it had not joined", never.come(1), 1);
        CHECKS.due("and is removed behind that", never.come(1), NONE);
    }

    private static void rightHalfIsBlank() {
        CHECKS.sentence("while the right half's leaves are all blank, D is one less");
        int[] from = {8, 4, 2, 1};
        for (int i = 0; i < from.length; i++) {
            RatchetGroup g = Groups.of(16, true);
            for (int leaf = from[i]; leaf < 16; leaf++) {
                g.remove(0, leaf);
            }
            g.commit(0, false);
            CHECKS.due("leaves 0 .. " + (from[i] - 1) + " are left", g.epoch(2, 0), 3 - i);
            CHECKS.due("one node more", g.node(2, 2 * from[i] - 1, 0), NONE);
            CHECKS.due("D of the epoch before", g.epoch(1, 0), 4);
        }
    }

    private static void rightHalfHasALeaf() {
        CHECKS.sentence("while the right half's leaves are ALL blank");
        for (int stays = 8; stays < 16; stays++) {
            RatchetGroup g = Groups.of(16, true);
            for (int leaf = 1; leaf < 16; leaf++) {
                if (leaf != stays) {
                    g.remove(0, leaf);
                }
            }
            g.commit(0, false);
            CHECKS.due("leaf " + stays + " stays", g.epoch(2, 0), 4);
            CHECKS.due("the top alone counts", g.epoch(2, 2), Groups.bits(15));
        }
        RatchetGroup last = Groups.of(16, true);
        for (int leaf = 0; leaf < 15; leaf++) {
            last.remove(15, leaf);
        }
        last.commit(15, false);
        CHECKS.due("the committer is in the right half", last.epoch(2, 0), 4);
        CHECKS.due("none counts", last.epoch(2, 2), 0);
        CHECKS.due("secret and leaf", last.member(15, 2), 2);
        last.add(15, last.offer(3));
        last.commit(15, false);
        CHECKS.due("the lowest blank leaf is in the left half", last.epoch(3, 5), Groups.bits(0));
        CHECKS.due("D", last.epoch(3, 0), 4);
    }

    private static void depthIsNotBelowZero() {
        CHECKS.sentence("D is one less (not below 0)");
        RatchetGroup g = Groups.of(2, true);
        g.remove(0, 1);
        g.commit(0, false);
        CHECKS.due("D", g.epoch(2, 0), 0);
        nodesAre("one leaf", g, 2, "k");
        g.remove(0, 0);
        g.remove(0, 1);
        g.commit(0, false);
        CHECKS.due("D", g.epoch(3, 0), 0);
        nodesAre("one leaf", g, 3, "k");
        CHECKS.due("the committer holds its secret and leaf", g.member(0, 2), 2);
    }

    private static void updatedLeafHasABlankPath() {
        CHECKS.sentence("All UPDATEs: the leaf has the new key, its path is blank");
        RatchetGroup g = Groups.of(8, true);
        g.commit(6, true);
        Groups.allCome(g);
        g.update(1);
        g.commit(6, false);
        nodesAre("leaf 1, from 6", g, 3, "k.k.k.kkk.kkkkk");
        CHECKS.due("leaf 1 got its key", g.node(3, 2, 2), 3);
        CHECKS.due("leaf 0 has its old one", g.node(3, 0, 2), 1);
        CHECKS.due("leaf 7 has its old one", g.node(3, 14, 2), 1);
    }

    private static void addedAtTheLowestBlankLeaf() {
        CHECKS.sentence("All ADDs: the member has the lowest blank leaf");
        RatchetGroup g = Groups.of(8, true);
        g.remove(0, 6);
        g.remove(0, 3);
        g.remove(0, 1);
        g.commit(0, false);
        int[] who = {12, 11, 10, 9};
        int[] leaves = {1, 3, 6, 8};
        for (int m : who) {
            g.add(0, g.offer(m));
        }
        g.commit(0, false);
        CHECKS.due("added", g.epoch(3, 5), Groups.bits(1, 3, 6, 8));
        CHECKS.due("D", g.epoch(3, 0), 4);
        for (int i = 0; i < 4; i++) {
            g.come(who[i]);
            CHECKS.due("the leaf of " + who[i], g.member(who[i], 1), leaves[i]);
        }
    }

    private static void growthBringsBlankNodes() {
        CHECKS.sentence("if there is none, D is one more first (the new top and right half blank)");
        RatchetGroup g = new RatchetGroup();
        for (int m = 1; m < 16; m++) {
            g.add(0, g.offer(m));
            g.commit(0, false);
            int d = DEPTH_OF_SIZE[m + 1];
            CHECKS.due("D of " + (m + 1), g.epoch(m, 0), d);
            CHECKS.due("the top", g.node(m, (1 << d) - 1, 0), 0);
            CHECKS.due("the last leaf", g.node(m, (2 << d) - 2, 0), m == (1 << d) - 1 ? 1 : 0);
            CHECKS.due("leaf " + m, g.node(m, 2 * m, 2), m);
            CHECKS.due("all that are there, below the top", g.node(m, (1 << d) - 1, 3), m + 1);
        }
        RatchetGroup back = Groups.of(16, true);
        back.commit(15, true);
        Groups.allCome(back);
        for (int leaf = 1; leaf < 16; leaf++) {
            back.remove(0, leaf);
        }
        back.commit(0, false);
        for (int m = 1; m < 10; m++) {
            back.add(0, back.offer(m));
        }
        back.commit(0, false);
        nodesAre("nothing comes back", back, 4, "k.k.k.k.k.k.k.k.k.k............");
    }

    private static void depthIsNotAboveFour() {
        CHECKS.sentence("D is one more first (not above 4)");
        RatchetGroup g = Groups.of(16, false);
        for (int m = 0; m < 16; m++) {
            g.add(0, g.offer(m));
        }
        g.commit(0, false);
        CHECKS.due("no ADD goes", g.epoch(2, 5), 0);
        CHECKS.due("D", g.epoch(2, 0), 4);
        for (int leaf = 1; leaf < 11; leaf++) {
            g.remove(0, leaf);
            g.add(0, 15 + leaf);
        }
        g.commit(0, false);
        CHECKS.due("only 0 is in the latest epoch", g.epoch(3, 3), 0x7FE);
        CHECKS.due("those that are behind are not added", g.epoch(3, 5), 0);
        Groups.allCome(g);
        Groups.allCome(g);
        for (int m = 1; m < 11; m++) {
            g.add(0, 15 + m);
        }
        g.commit(0, false);
        CHECKS.due("added again", g.epoch(4, 5), 0x7FE);
        CHECKS.due("D", g.epoch(4, 0), 4);
    }

    private static void shrinksAndGrowsInOneCommit() {
        CHECKS.sentence("all REMOVEs, then all ADDs: D is one less, then one more");
        RatchetGroup g = Groups.of(5, true);
        g.add(0, g.offer(9));
        g.remove(0, 4);
        g.commit(0, false);
        CHECKS.due("removed", g.epoch(2, 3), Groups.bits(4));
        CHECKS.due("added", g.epoch(2, 5), Groups.bits(4));
        CHECKS.due("D", g.epoch(2, 0), 3);
        RatchetGroup lower = Groups.of(5, true);
        lower.add(0, lower.offer(9));
        lower.remove(0, 4);
        lower.remove(0, 2);
        lower.commit(0, false);
        CHECKS.due("added at a lower leaf", lower.epoch(2, 5), Groups.bits(2));
        CHECKS.due("D stays less", lower.epoch(2, 0), 2);
    }

    private static void addedIsUnmergedWhereAKeyIs() {
        CHECKS.sentence("is unmerged in each node of its path that has a key");
        RatchetGroup g = Groups.of(7, true);
        g.commit(4, true);
        Groups.allCome(g);
        nodesAre("before", g, 2, "kkkkk.kkkkkkk..");
        g.add(0, g.offer(8));
        g.commit(0, false);
        int[] due = new int[15];
        due[7] = Groups.bits(7);
        due[11] = Groups.bits(7);
        for (int node = 0; node < 15; node++) {
            CHECKS.due("node(3, " + node + ", 1)", g.node(3, node, 1), due[node]);
            CHECKS.due("node(2, " + node + ", 1)", g.node(2, node, 1), 0);
        }
        CHECKS.due("13 is blank", g.node(3, 13, 0), 0);
        g.add(0, g.offer(9));
        g.commit(0, false);
        CHECKS.due("a new top is blank", g.node(4, 15, 1), 0);
        CHECKS.due("leaf 7 is unmerged yet", g.node(4, 7, 1), Groups.bits(7));
        CHECKS.due("8 was added beside", g.epoch(4, 5), Groups.bits(8));
        RatchetGroup first = Groups.of(8, true);
        first.remove(4, 0);
        first.commit(4, false);
        first.add(4, first.offer(9));
        first.commit(4, false);
        CHECKS.due("leaf 0", first.node(3, 7, 1), Groups.bits(0));
        CHECKS.due("leaf 0 is in its resolution", first.node(3, 7, 3), 2);
    }

    // --- with a path, or without

    private static void pathIsAskedFor() {
        CHECKS.sentence("With a path (asked for)");
        RatchetGroup g = Groups.of(2, true);
        g.add(0, g.offer(2));
        g.commit(0, true);
        CHECKS.due("nodes that count", g.epoch(2, 2), Groups.bits(1, 3));
        CHECKS.due("the committer's leaf has a FRESH key", g.node(2, 0, 2), 2);
    }

    private static void pathForARemove() {
        CHECKS.sentence("With a path (if a REMOVE goes)");
        RatchetGroup g = Groups.of(3, true);
        g.remove(0, 2);
        g.add(0, g.offer(9));
        g.commit(0, false);
        CHECKS.due("nodes that count", g.epoch(2, 2), Groups.bits(1, 3));
        CHECKS.due("the committer's leaf has a FRESH key", g.node(2, 0, 2), 2);
        RatchetGroup not = Groups.of(3, true);
        not.remove(0, 3);
        not.remove(1, 0);
        not.add(0, not.offer(9));
        not.commit(0, false);
        CHECKS.due("it does not go", not.epoch(2, 2), 0);
    }

    private static void pathForAnUpdate() {
        CHECKS.sentence("With a path (if an UPDATE goes)");
        RatchetGroup g = Groups.of(3, true);
        g.update(1);
        g.add(0, g.offer(9));
        g.commit(0, false);
        CHECKS.due("nodes that count", g.epoch(2, 2), Groups.bits(1, 3));
        CHECKS.due("the committer's leaf has a FRESH key", g.node(2, 0, 2), 2);
        RatchetGroup not = Groups.of(3, true);
        not.update(0);
        not.add(0, not.offer(9));
        not.commit(0, false);
        CHECKS.due("it does not go", not.epoch(2, 2), 0);
        CHECKS.due("the committer's leaf has its old key", not.node(2, 0, 2), 1);
    }

    private static void pathIfNothingGoes() {
        CHECKS.sentence("With a path (or nothing does)");
        RatchetGroup empty = Groups.of(2, true);
        empty.commit(0, false);
        CHECKS.due("nothing waits", empty.epoch(2, 2), Groups.bits(1));
        CHECKS.due("nothing waits", empty.node(2, 0, 2), 2);
        RatchetGroup none = Groups.of(2, true);
        none.update(0);
        none.remove(0, 0);
        none.remove(0, 9);
        none.add(0, 0);
        none.commit(0, false);
        CHECKS.due("four wait that can't go", none.epoch(2, 2), Groups.bits(1));
        CHECKS.due("four wait that can't go", none.node(2, 0, 2), 2);
    }

    private static void noPathForAddsAlone() {
        CHECKS.sentence("Without a path: not asked for, ADDs alone go");
        RatchetGroup g = Groups.of(2, true);
        g.add(0, g.offer(2));
        g.commit(1, false);
        CHECKS.due("nodes that count", g.epoch(2, 2), 0);
        CHECKS.due("the committer's leaf has its old key", g.node(2, 2, 2), 1);
        CHECKS.due("node 1 has its old key", g.node(2, 1, 2), 1);
        CHECKS.due("j alone is ENCRYPTED", g.epoch(2, 6), 1);
    }

    private static void nodesThatDoNotCountAreBlank() {
        CHECKS.sentence("those nodes count of which the one below .. has a resolution that is not empty; the others are blank");
        RatchetGroup g = Groups.of(9, true);
        g.commit(8, true);
        CHECKS.due("from leaf 8", g.epoch(2, 2), Groups.bits(15));
        CHECKS.due("ENCRYPTED for node 7 alone", g.epoch(2, 6), 1);
        for (int node : new int[] {17, 19, 23}) {
            CHECKS.due("node(2, " + node + ", 0)", g.node(2, node, 0), 0);
        }
        CHECKS.due("secret, leaf, top", g.member(8, 2), 3);
        RatchetGroup added = new RatchetGroup();
        added.add(0, added.offer(1));
        added.commit(0, true);
        CHECKS.due("one that is added now makes it count", added.epoch(1, 2), Groups.bits(1));
        CHECKS.due("ENCRYPTED for its first key alone, twice", added.epoch(1, 6), 2);
    }

    private static void freshIfNoneCounts() {
        CHECKS.sentence("c is NEXT of the last path secret (FRESH, if none counts)");
        RatchetGroup g = new RatchetGroup();
        g.compromise(0);
        g.commit(0, true);
        CHECKS.no("isKnown(1)", g.isKnown(1));
        CHECKS.no("isOpen(1, 0)", g.isOpen(1, 0));
        CHECKS.due("nothing is ENCRYPTED", g.epoch(1, 6), 0);
        RatchetGroup wide = Groups.of(16, true);
        wide.compromise(15);
        for (int leaf = 0; leaf < 15; leaf++) {
            wide.remove(15, leaf);
        }
        wide.commit(15, false);
        CHECKS.no("alone in a wide tree", wide.isKnown(2));
        RatchetGroup next = Groups.of(2, true);
        next.compromise(1);
        next.commit(0, true);
        CHECKS.yes("NEXT of what was told", next.isKnown(2));
    }

    private static void eachFurtherPathSecretIsNext() {
        CHECKS.sentence("the first has a FRESH path secret, each further one NEXT of the one before");
        boolean[][] open = {
            {false, true, true, true},
            {false, false, true, true},
            {false, false, false, true}};
        int[] told = {1, 2, 4};
        int[] nodes = {0, 1, 3, 7};
        for (int i = 0; i < told.length; i++) {
            RatchetGroup g = Groups.of(8, false);
            g.commit(0, true);
            g.compromise(told[i]);
            for (int k = 0; k < nodes.length; k++) {
                CHECKS.due("told " + told[i] + ": isOpen(2, " + nodes[k] + ")", g.isOpen(2, nodes[k]) ? 1 : 0,
                    open[i][k] ? 1 : 0);
            }
            CHECKS.yes("told " + told[i] + ": isKnown(2)", g.isKnown(2));
        }
    }

    private static void keyDoesNotGiveItsPathSecret() {
        CHECKS.sentence("each has KEY of its path secret");
        RatchetGroup g = new RatchetGroup();
        g.compromise(0);
        g.add(0, g.offer(1));
        g.commit(0, true);
        g.come(1);
        g.add(0, g.offer(2));
        g.commit(0, false);
        g.come(1);
        CHECKS.due("secret, leaf, node 1", g.compromise(1), 3);
        CHECKS.yes("the key of node 1", g.isOpen(1, 1));
        CHECKS.yes("isKnown(2)", g.isKnown(2));
        CHECKS.no("the key does not give c", g.isKnown(1));
        CHECKS.due("known()", g.known(), 2);
    }

    private static void nothingUnmergedInNodesThatCount() {
        CHECKS.sentence("each has KEY of its path secret, and nothing unmerged");
        RatchetGroup g = Groups.of(7, true);
        g.commit(4, true);
        Groups.allCome(g);
        g.add(0, g.offer(8));
        g.commit(0, true);
        CHECKS.due("it counts: node 7", g.node(3, 7, 1), 0);
        CHECKS.due("it does not count: node 11", g.node(3, 11, 1), Groups.bits(7));
        Groups.allCome(g);
        g.come(8);
        g.commit(8, true);
        CHECKS.due("nodes that count", g.epoch(4, 2), Groups.bits(13, 11, 7));
        CHECKS.due("now it counts: node 11", g.node(4, 11, 1), 0);
        CHECKS.due("its resolution", g.node(4, 11, 3), 1);
    }

    private static void notEncryptedForAddedLeaves() {
        CHECKS.sentence("ENCRYPTED for the key of each node of that resolution but for leaves that were added in this commit");
        RatchetGroup g = Groups.of(7, true);
        g.commit(4, true);
        Groups.allCome(g);
        g.add(0, g.offer(8));
        g.commit(0, true);
        CHECKS.due("for 2; 4 6; 11; twice for the ADD", g.epoch(3, 6), 6);
        Groups.allCome(g);
        g.commit(0, true);
        CHECKS.due("for 2; 4 6; 11 and leaf 7, which was added before", g.epoch(4, 6), 5);
        RatchetGroup left = Groups.of(4, false);
        left.commit(2, true);
        Groups.allCome(left);
        CHECKS.due("for 6; 0 2", left.epoch(2, 6), 3);
        left.remove(2, 0);
        left.add(2, left.offer(9));
        left.commit(2, false);
        CHECKS.due("for 6; 2, not leaf 0; twice for the ADD", left.epoch(3, 6), 4);
        left.come(9);
        left.commit(2, true);
        CHECKS.due("for 6; 0 2", left.epoch(4, 6), 3);
        RatchetGroup all = new RatchetGroup();
        for (int m = 1; m < 16; m++) {
            all.add(0, all.offer(m));
        }
        all.commit(0, true);
        CHECKS.due("all were added: twice for each", all.epoch(1, 6), 30);
    }

    private static void zeroWithoutAPath() {
        CHECKS.sentence("Without a path c is ZERO");
        RatchetGroup g = new RatchetGroup();
        g.compromise(0);
        for (int m = 1; m < 16; m++) {
            g.add(0, g.offer(m));
            g.commit(0, false);
            CHECKS.yes("isKnown(" + m + ")", g.isKnown(m));
            CHECKS.no("the added leaf's key", g.isOpen(m, 2 * m));
        }
        CHECKS.due("known()", g.known(), 16);
        g.commit(0, true);
        CHECKS.no("with a path", g.isKnown(16));
    }

    private static void joinerNeedsBoth() {
        CHECKS.sentence("who knows i and c knows JOINER(i, c)");
        RatchetGroup g = new RatchetGroup();
        g.add(0, g.offer(1));
        g.commit(0, false);
        CHECKS.no("c alone", g.isKnown(1));
        g.compromise(0);
        CHECKS.yes("told", g.isKnown(1));
        CHECKS.no("not what was before", g.isKnown(0));
        g.commit(0, true);
        CHECKS.no("i alone", g.isKnown(2));
    }

    private static void joinerIsEncryptedForEachAdd() {
        CHECKS.sentence("For each ADD, j is ENCRYPTED for the package's first key, and with a path also the path secret");
        for (int told = 1; told < 4; told++) {
            for (int path = 0; path < 2; path++) {
                RatchetGroup g = new RatchetGroup();
                for (int m = 1; m < 4; m++) {
                    g.add(0, g.offer(m));
                }
                g.commit(0, path == 1);
                CHECKS.due("ENCRYPTED", g.epoch(1, 6), 3 + 3 * path);
                CHECKS.due("both keys of its package", g.compromise(told), 2);
                CHECKS.yes("j was ENCRYPTED for it", g.isKnown(1));
                CHECKS.no("what was before is not known", g.isKnown(0));
                CHECKS.due("of the lowest above leaf 1", g.isOpen(1, 1) ? 1 : 0, path == 1 && told == 1 ? 1 : 0);
                CHECKS.due("of the lowest above the others", g.isOpen(1, 3) ? 1 : 0, path);
            }
        }
    }

    // --- who holds what

    private static void committerHoldsItsPath() {
        CHECKS.sentence("it holds its new leaf key, and the keys of all nodes that count");
        for (int size = 1; size <= 16; size++) {
            RatchetGroup g = Groups.of(size, false);
            int m = size - 1;
            g.commit(m, true);
            int count = Integer.bitCount(g.epoch(2, 2));
            CHECKS.yes("leaf of " + m, g.holds(m, 2 * m));
            CHECKS.yes("has(" + m + ")", g.has(m));
            CHECKS.due("secret, leaf, " + count + " nodes", g.member(m, 2), 2 + count);
            for (int node = 0; node < 31; node++) {
                CHECKS.due("holds(" + m + ", " + node + ")", g.holds(m, node) ? 1 : 0,
                    node == 2 * m || (g.epoch(2, 2) >> node & 1) == 1 ? 1 : 0);
            }
        }
    }

    private static void committerKeepsWhatItHeld() {
        CHECKS.sentence("of others of its path those that it held, if they are not blank");
        RatchetGroup g = Groups.of(8, true);
        g.add(0, g.offer(8));
        g.commit(1, false);
        CHECKS.due("secret, leaf, 1, 3, 7", g.member(1, 2), 5);
        for (int node : new int[] {2, 1, 3, 7}) {
            CHECKS.yes("holds(1, " + node + ")", g.holds(1, node));
        }
        CHECKS.no("the new top is blank", g.holds(1, 15));
        RatchetGroup joined = Groups.of(7, true);
        joined.commit(4, true);
        Groups.allCome(joined);
        joined.add(0, joined.offer(8));
        joined.commit(0, true);
        joined.come(8);
        joined.add(8, joined.offer(9));
        joined.commit(8, false);
        CHECKS.yes("11 has a key", joined.node(4, 11, 0) == 1);
        CHECKS.no("that it did not hold", joined.holds(8, 11));
        CHECKS.yes("7 has one that it held", joined.holds(8, 7));
        RatchetGroup blank = Groups.of(8, true);
        for (int leaf = 1; leaf < 8; leaf++) {
            if (leaf != 4) {
                blank.remove(0, leaf);
            }
        }
        blank.commit(0, false);
        CHECKS.due("1 and 3 are blank: secret, leaf, 7", blank.member(0, 2), 3);
    }

    private static void comesAndWasRemoved() {
        CHECKS.sentence("if it was removed, it is in none, and holds packages' keys alone");
        RatchetGroup g = Groups.of(3, true);
        g.offer(1);
        g.update(1);
        g.commit(0, true);
        g.offer(1);
        g.remove(0, 1);
        g.commit(0, true);
        g.come(1);
        CHECKS.due("secret, leaf, 1, 3, two packages", g.member(1, 2), 8);
        CHECKS.due("come(1)", g.come(1), NONE);
        CHECKS.due("two packages", g.member(1, 2), 4);
        CHECKS.due("member(1, 1)", g.member(1, 1), NONE);
        RatchetGroup atOnce = Groups.of(3, true);
        atOnce.offer(1);
        atOnce.update(1);
        atOnce.update(1);
        atOnce.remove(0, 1);
        atOnce.commit(0, true);
        CHECKS.due("one package", atOnce.member(1, 2), 2);
    }

    private static void comesAndDropsKeys() {
        CHECKS.sentence("it drops keys of nodes of its path that are blank, or have another key now, and of such as are not there");
        RatchetGroup g = Groups.of(9, true);
        CHECKS.due("secret, leaf, 1, 3, 7, 15", g.member(1, 2), 6);
        g.remove(4, 8);
        g.remove(4, 0);
        g.commit(4, false);
        g.come(1);
        CHECKS.due("D", g.epoch(2, 0), 3);
        CHECKS.no("1 is blank", g.holds(1, 1));
        CHECKS.no("3 is blank", g.holds(1, 3));
        CHECKS.yes("7 has another key", g.holds(1, 7));
        CHECKS.no("15 is not there", g.holds(1, 15));
        CHECKS.due("secret, leaf, 7", g.compromise(1), 3);
        CHECKS.no("its old key of 7 was dropped", g.isOpen(1, 7));
        CHECKS.no("its old key of 15 was dropped", g.isOpen(1, 15));
        CHECKS.no("its old key of 1 was dropped", g.isOpen(1, 1));
        CHECKS.yes("its leaf's key is the old one", g.isOpen(1, 2));
    }

    private static void comesAndHasItsUpdate() {
        CHECKS.sentence("its leaf's key is that of its UPDATE, if that goes; other updates of its are dropped");
        RatchetGroup g = Groups.of(2, true);
        for (int i = 0; i < 20; i++) {
            g.update(1);
        }
        CHECKS.due("secret, leaf, 1, twenty updates", g.member(1, 2), 23);
        g.commit(0, false);
        CHECKS.due("it has not come yet", g.member(1, 2), 23);
        CHECKS.due("come(1)", g.come(1), 2);
        CHECKS.due("secret, leaf, 1", g.member(1, 2), 3);
        CHECKS.yes("its leaf's key", g.holds(1, 2));
        CHECKS.yes("it is told by its new key", g.holds(1, 1));
        CHECKS.yes("has(1)", g.has(1));
        g.compromise(1);
        CHECKS.no("the old leaf's key was dropped", g.isOpen(1, 2));
        CHECKS.yes("the new one was told", g.isOpen(2, 2));
    }

    private static void comesAndItsUpdateDoesNotGo() {
        CHECKS.sentence("the FRESH key of each UPDATE that it proposed since it came to its epoch");
        RatchetGroup g = Groups.of(2, true);
        g.update(0);
        CHECKS.due("secret, leaf, 1, update", g.member(0, 2), 4);
        g.commit(0, false);
        CHECKS.due("the committer's are dropped", g.member(0, 2), 3);
        g.come(1);
        g.update(1);
        g.commit(0, false);
        g.commit(0, false);
        CHECKS.due("one that is behind holds it yet", g.member(1, 2), 4);
        g.come(1);
        CHECKS.due("it is the leaf's", g.member(1, 2), 3);
        g.come(1);
        CHECKS.due("and stays the leaf's", g.member(1, 2), 3);
        CHECKS.due("got in epoch 3", g.node(4, 2, 2), 3);
        CHECKS.yes("holds(1, 2)", g.holds(1, 2));
    }

    private static void comesAndIsToldFromTheLowest() {
        CHECKS.sentence("it is told the keys of that node and of all that count above");
        RatchetGroup g = Groups.of(16, false);
        g.commit(0, true);
        Groups.allCome(g);
        int[] counting = {1, 3, 7, 15};
        for (int m = 1; m < 16; m++) {
            int lowest = 32 - Integer.numberOfLeadingZeros(m);
            for (int i = 0; i < 4; i++) {
                CHECKS.due("holds(" + m + ", " + counting[i] + ")", g.holds(m, counting[i]) ? 1 : 0,
                    i + 1 >= lowest ? 1 : 0);
            }
            CHECKS.due("member(" + m + ", 2)", g.member(m, 2), 2 + 4 - lowest + 1);
            CHECKS.yes("has(" + m + ")", g.has(m));
        }
    }

    /** No run is known in which a member is STUCK: all who are below a node's key hold it, or are unmerged in it. */
    private static void comesAndIsNeverStuck() {
        CHECKS.sentence("if it holds one of these .. it is told; else it is STUCK");
        RatchetGroup g = Groups.of(7, true);
        g.commit(4, true);
        Groups.allCome(g);
        g.add(0, g.offer(8));
        g.commit(0, true);
        Groups.allCome(g);
        g.come(8);
        g.commit(0, true);
        CHECKS.due("it is unmerged in 11, and told by its leaf's key", g.come(8), 4);
        CHECKS.yes("holds(8, 7)", g.holds(8, 7));
        CHECKS.no("holds(8, 11)", g.holds(8, 11));
        CHECKS.yes("has(8)", g.has(8));
        CHECKS.due("member(8, 3)", g.member(8, 3), 0);
        CHECKS.due("one that is merged in 11 is told by that", g.come(5), 4);
        CHECKS.due("member(5, 3)", g.member(5, 3), 0);
        CHECKS.yes("has(5)", g.has(5));
    }

    private static void joinsWithAPath() {
        CHECKS.sentence("with a path the keys of the nodes that count, from the lowest one above its leaf on");
        RatchetGroup g = Groups.of(7, true);
        g.commit(4, true);
        Groups.allCome(g);
        g.add(0, g.offer(8));
        g.commit(0, true);
        CHECKS.due("both keys of its package", g.member(8, 2), 2);
        CHECKS.due("come(8)", g.come(8), 3);
        CHECKS.due("secret, leaf, 7; the first key is dropped", g.member(8, 2), 3);
        CHECKS.yes("its leaf", g.holds(8, 14));
        CHECKS.yes("7 counts", g.holds(8, 7));
        CHECKS.no("11 has a key, but does not count", g.holds(8, 11));
        CHECKS.yes("has(8)", g.has(8));
    }

    private static void joinsWithoutAPath() {
        CHECKS.sentence("JOINS: it is in the epoch that the ADD opened, holds its leaf key, the epoch's secret");
        RatchetGroup g = Groups.of(7, true);
        g.add(0, g.offer(8));
        g.commit(0, false);
        g.commit(0, true);
        CHECKS.due("come(8)", g.come(8), 2);
        CHECKS.due("its leaf", g.member(8, 1), 7);
        CHECKS.due("secret, leaf", g.member(8, 2), 2);
        CHECKS.yes("holds(8, 14)", g.holds(8, 14));
        CHECKS.no("the top has a key", g.holds(8, 7));
        CHECKS.yes("has(8)", g.has(8));
        CHECKS.due("the first key is dropped", g.compromise(8), 2);
        CHECKS.yes("isKnown(2)", g.isKnown(2));
        CHECKS.no("isKnown(1)", g.isKnown(1));
    }

    // --- THE INTRUDER

    private static void intruderKnowsWhatWasSentBefore() {
        CHECKS.sentence("all that is ENCRYPTED for what it knows");
        RatchetGroup g = Groups.of(3, true);
        for (int i = 0; i < 50; i++) {
            g.commit(0, true);
        }
        CHECKS.due("secret, leaf, 3", g.compromise(2), 3);
        CHECKS.due("all that came behind", g.known(), 51);
        CHECKS.no("isKnown(0)", g.isKnown(0));
        CHECKS.yes("isOpen(51, 3)", g.isOpen(51, 3));
        CHECKS.no("isOpen(51, 1)", g.isOpen(51, 1));
        g.commit(0, true);
        CHECKS.yes("and what comes later", g.isKnown(52));
        g.remove(0, 2);
        g.commit(0, false);
        CHECKS.no("until it is removed", g.isKnown(53));
    }

    private static void forgottenIsNotTold() {
        CHECKS.sentence("What it holds no more it has forgotten");
        RatchetGroup g = Groups.of(3, true);
        g.commit(0, true);
        Groups.allCome(g);
        g.compromise(0);
        g.compromise(1);
        g.compromise(2);
        CHECKS.due("the latest one alone", g.known(), 1);
        CHECKS.no("isKnown(1)", g.isKnown(1));
        CHECKS.no("0's old leaf key", g.isOpen(1, 0));
        CHECKS.no("the old key of node 1", g.isOpen(1, 1));
        CHECKS.yes("1's leaf key is the same", g.isOpen(1, 2));
    }
}
