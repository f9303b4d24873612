/**
 * The boundary cases that the document's promises 1 to 18 name, each sentence with a test of its own.
 * BoundaryTermsTest has those of the chapter Terms.
 */
public final class BoundaryCallsTest {
    private static final int NONE = RatchetGroup.NONE;
    private static final int LOW = Integer.MIN_VALUE;
    private static final int HIGH = Integer.MAX_VALUE;
    /** Too small, too large, and such as wrap round to a good number if bits are cut off. */
    private static final int[] NO_MEMBERS = {LOW, LOW + 1, -65536, -256, -16, -2, -1, 16, 17, 31, 32, 256, 65536, HIGH};

    private static final Checks CHECKS = new Checks("BoundaryCallsTest");

    public static void main(String[] args) {
        newObjectIsEpochZero();
        newObjectHasFreshSecrets();
        offerNumbersFromZero();
        offerByNoMember();
        offerWhenThereAreSixty();
        addTellsHowManyWait();
        addByNoMember();
        addOfNoPackage();
        addByOneNotInTheLatestEpoch();
        addWhenTwentyWait();
        removeTellsHowManyWait();
        removeByNoMember();
        removeOfNoLeaf();
        removeByOneNotInTheLatestEpoch();
        removeWhenTwentyWait();
        updateTellsHowManyWait();
        updateByNoMember();
        updateByOneNotInTheLatestEpoch();
        updateWhenTwentyWait();
        commitNumbersEpochs();
        commitByNoMember();
        commitByOneNotInTheLatestEpoch();
        commitWhenThereAreSixty();
        comeToTheEpochBehindItsOwn();
        comeJoinsTheEarliest();
        comeOfOneThatWasRemoved();
        comeOfNoMember();
        comeOfOneInTheLatestEpoch();
        comeOfOneInNoneThatWasNotAdded();
        compromiseOfOneThatHoldsNothing();
        compromiseOfOneThatHoldsMost();
        compromiseTellsNothingOfOthers();
        compromiseOfNoMember();
        memberInNone();
        memberWithAnotherWhat();
        memberThatIsNone();
        holdsOfOneInNone();
        holdsOfNodesThatAreNotThere();
        holdsWhatOthersDo();
        holdsInItsOwnTree();
        hasOfOneInNone();
        nodeThatIsBlank();
        nodeThatIsALeaf();
        nodeThatIsNone();
        nodeWithAnotherWhat();
        epochZeroHasNoCommitter();
        epochWithoutPathHasNoneThatCount();
        epochThatIsNone();
        epochWithAnotherWhat();
        epochsFromOneToSixty();
        waitingFromNoneToTwenty();
        isKnownOfNoEpoch();
        isOpenOfNoKey();
        knownFromNoneToAll();
        CHECKS.end();
    }

    /** Sixty packages, all of member 1. */
    private static RatchetGroup withSixtyPackages() {
        RatchetGroup g = new RatchetGroup();
        for (int i = 0; i < 60; i++) {
            g.offer(1);
        }
        return g;
    }

    /** Member 0 in epoch 59, member 1 in epoch 58, both at their leaves; nothing waits. */
    private static RatchetGroup withSixtyEpochs() {
        RatchetGroup g = Groups.of(2, true);
        for (int i = 2; i < 60; i++) {
            if (i > 2) {
                g.come(1);
            }
            g.commit(0, i % 2 == 0);
        }
        return g;
    }

    /** Members 0 .. 2, and 20 proposals of all three kinds. */
    private static RatchetGroup withTwentyWaiting() {
        RatchetGroup g = Groups.of(3, true);
        g.offer(3);
        for (int i = 0; i < 5; i++) {
            g.update(1);
            g.remove(1, 15);
            g.add(0, 2);
            g.remove(2, i);
        }
        return g;
    }

    /**
     * 0 is in the latest epoch; 1 is behind; 2 was removed at once; 3 was added and has not come;
     * 4 has a package that is used by none; 5 has done nothing; 6 was removed and has not come to that.
     */
    private static RatchetGroup withAllSortsOfMembers() {
        RatchetGroup g = new RatchetGroup();
        int[] offered = new int[7];
        for (int i : new int[] {1, 2, 3, 4, 6}) {
            offered[i] = g.offer(i);
        }
        g.add(0, offered[1]);
        g.add(0, offered[2]);
        g.add(0, offered[6]);
        g.commit(0, true);
        g.come(1);
        g.come(2);
        g.come(6);
        g.commit(0, true);
        g.come(2);
        g.add(0, offered[3]);
        g.remove(0, 2);
        g.remove(0, 3);
        g.commit(0, true);
        return g;
    }

    /** Members 0, 1 and 3 in epoch 3, and 9 at leaf 2: unmerged in node 3, told of no node; 0 holds 1 and 3. */
    private static RatchetGroup unmergedBesideOthers() {
        RatchetGroup g = Groups.of(4, true);
        g.remove(0, 2);
        g.commit(0, true);
        Groups.allCome(g);
        g.add(0, g.offer(9));
        g.commit(0, false);
        Groups.allCome(g);
        g.come(9);
        return g;
    }

    // --- promise 1

    private static void newObjectIsEpochZero() {
        CHECKS.sentence("1: Epoch 0: D is 0, member 0 is at leaf 0");
        RatchetGroup g = new RatchetGroup();
        CHECKS.due("epochs()", g.epochs(), 1);
        CHECKS.due("epoch(0, 0)", g.epoch(0, 0), 0);
        CHECKS.due("node(0, 0, 0)", g.node(0, 0, 0), 1);
        CHECKS.due("node(0, 0, 2)", g.node(0, 0, 2), 0);
        CHECKS.due("node(0, 1, 0)", g.node(0, 1, 0), NONE);
        CHECKS.due("member(0, 0)", g.member(0, 0), 0);
        CHECKS.due("member(0, 1)", g.member(0, 1), 0);
        for (int i = 1; i < 16; i++) {
            CHECKS.due("member(" + i + ", 0)", g.member(i, 0), NONE);
            CHECKS.due("member(" + i + ", 1)", g.member(i, 1), NONE);
            CHECKS.due("member(" + i + ", 2)", g.member(i, 2), 0);
        }
        for (int what = 2; what < 7; what++) {
            CHECKS.due("epoch(0, " + what + ")", g.epoch(0, what), 0);
        }
    }

    private static void newObjectHasFreshSecrets() {
        CHECKS.sentence("1: with a FRESH key; the epoch's secret is FRESH");
        RatchetGroup g = new RatchetGroup();
        CHECKS.no("isKnown(0)", g.isKnown(0));
        CHECKS.no("isOpen(0, 0)", g.isOpen(0, 0));
        CHECKS.yes("holds(0, 0)", g.holds(0, 0));
        CHECKS.yes("has(0)", g.has(0));
        CHECKS.due("two different ones", g.member(0, 2), 2);
        new RatchetGroup().compromise(0);
        CHECKS.no("another object's are others", g.isKnown(0));
    }

    // --- promise 2

    private static void offerNumbersFromZero() {
        CHECKS.sentence("2: A member makes a PACKAGE: its number");
        RatchetGroup g = new RatchetGroup();
        for (int i = 0; i < 60; i++) {
            int m = i % 2 == 0 ? 15 : 0;
            CHECKS.due("offer(" + m + ")", g.offer(m), i);
        }
        CHECKS.due("both keys of thirty", g.member(15, 2), 60);
        CHECKS.due("both keys of thirty, and its own", g.member(0, 2), 62);
    }

    private static void offerByNoMember() {
        CHECKS.sentence("2: IndexOutOfBoundsException: no such member");
        Refused refused = new Refused(CHECKS, RatchetGroup::new);
        for (int m : NO_MEMBERS) {
            refused.index("offer(" + m + ")", g -> g.offer(m));
        }
        for (int m = 0; m < 16; m++) {
            CHECKS.due("offer(" + m + ")", new RatchetGroup().offer(m), 0);
        }
    }

    private static void offerWhenThereAreSixty() {
        CHECKS.sentence("2: IllegalStateException: there are 60");
        RatchetGroup last = new RatchetGroup();
        for (int i = 0; i < 59; i++) {
            last.offer(1);
        }
        CHECKS.due("the sixtieth", last.offer(1), 59);
        Refused refused = new Refused(CHECKS, BoundaryCallsTest::withSixtyPackages);
        for (int m = 0; m < 16; m++) {
            int by = m;
            refused.state("offer(" + m + ")", g -> g.offer(by));
        }
        RatchetGroup used = withSixtyPackages();
        used.add(0, 59);
        used.commit(0, true);
        used.come(1);
        CHECKS.throwsState("used ones count, too", () -> used.offer(1));
    }

    // --- promise 3

    private static void addTellsHowManyWait() {
        CHECKS.sentence("3: ADD is proposed: how many proposals wait");
        RatchetGroup g = new RatchetGroup();
        g.offer(1);
        for (int i = 1; i <= 20; i++) {
            CHECKS.due("add(0, 0)", g.add(0, 0), i);
            CHECKS.due("waiting()", g.waiting(), i);
        }
        RatchetGroup mixed = new RatchetGroup();
        mixed.offer(1);
        mixed.remove(0, 3);
        mixed.update(0);
        CHECKS.due("behind two others", mixed.add(0, 0), 3);
        mixed.commit(0, true);
        CHECKS.due("from 1 on behind a commit", mixed.add(0, 0), 1);
    }

    private static void addByNoMember() {
        CHECKS.sentence("3: IndexOutOfBoundsException: no such member");
        Refused refused = new Refused(CHECKS, () -> {
            RatchetGroup g = new RatchetGroup();
            g.offer(1);
            return g;
        });
        for (int m : NO_MEMBERS) {
            refused.index("add(" + m + ", 0)", g -> g.add(m, 0));
        }
    }

    private static void addOfNoPackage() {
        CHECKS.sentence("3: IndexOutOfBoundsException: no such package");
        Refused none = new Refused(CHECKS, RatchetGroup::new);
        none.index("add(0, 0), when there are none", g -> g.add(0, 0));
        Refused two = new Refused(CHECKS, () -> {
            RatchetGroup g = new RatchetGroup();
            g.offer(1);
            g.offer(2);
            return g;
        });
        for (int offered : new int[] {LOW, -1, 2, 3, 59, 60, HIGH}) {
            two.index("add(0, " + offered + ")", g -> g.add(0, offered));
        }
        Refused sixty = new Refused(CHECKS, BoundaryCallsTest::withSixtyPackages);
        sixty.index("add(0, 60)", g -> g.add(0, 60));
        RatchetGroup g = withSixtyPackages();
        CHECKS.due("the first", g.add(0, 0), 1);
        CHECKS.due("the last", g.add(0, 59), 2);
    }

    private static void addByOneNotInTheLatestEpoch() {
        CHECKS.sentence("3: IllegalStateException: the member is not in the latest epoch");
        Refused refused = new Refused(CHECKS, BoundaryCallsTest::withAllSortsOfMembers);
        for (int m = 1; m < 7; m++) {
            int by = m;
            refused.state("add(" + m + ", 3)", g -> g.add(by, 3));
        }
        RatchetGroup g = withAllSortsOfMembers();
        CHECKS.due("one that is in it", g.add(0, 3), 1);
        g.come(3);
        CHECKS.due("one that has come to it", g.add(3, 3), 2);
    }

    private static void addWhenTwentyWait() {
        CHECKS.sentence("3: IllegalStateException: 20 wait");
        Refused refused = new Refused(CHECKS, BoundaryCallsTest::withTwentyWaiting);
        for (int m = 0; m < 3; m++) {
            int by = m;
            refused.state("add(" + m + ", 2)", g -> g.add(by, 2));
        }
        RatchetGroup g = withTwentyWaiting();
        g.commit(0, false);
        CHECKS.due("none wait any more", g.add(0, 2), 1);
    }

    // --- promise 4

    private static void removeTellsHowManyWait() {
        CHECKS.sentence("4: REMOVE is proposed: how many wait");
        RatchetGroup g = new RatchetGroup();
        for (int i = 1; i <= 20; i++) {
            CHECKS.due("remove(0, 0)", g.remove(0, 0), i);
            CHECKS.due("waiting()", g.waiting(), i);
        }
        g.commit(0, true);
        CHECKS.due("from 1 on behind a commit", g.remove(0, 0), 1);
    }

    private static void removeByNoMember() {
        CHECKS.sentence("4: IndexOutOfBoundsException: no such member");
        Refused refused = new Refused(CHECKS, () -> Groups.of(2, true));
        for (int m : NO_MEMBERS) {
            refused.index("remove(" + m + ", 1)", g -> g.remove(m, 1));
        }
    }

    private static void removeOfNoLeaf() {
        CHECKS.sentence("4: IndexOutOfBoundsException: no such leaf (0 .. 15)");
        Refused refused = new Refused(CHECKS, () -> Groups.of(2, true));
        for (int leaf : NO_MEMBERS) {
            refused.index("remove(0, " + leaf + ")", g -> g.remove(0, leaf));
        }
        RatchetGroup g = new RatchetGroup();
        for (int leaf = 0; leaf < 16; leaf++) {
            CHECKS.due("remove(0, " + leaf + "), whatever D is", g.remove(0, leaf), leaf + 1);
        }
    }

    private static void removeByOneNotInTheLatestEpoch() {
        CHECKS.sentence("4: IllegalStateException: as for add(): not in the latest epoch");
        Refused refused = new Refused(CHECKS, BoundaryCallsTest::withAllSortsOfMembers);
        for (int m = 1; m < 7; m++) {
            int by = m;
            refused.state("remove(" + m + ", 0)", g -> g.remove(by, 0));
        }
        RatchetGroup g = withAllSortsOfMembers();
        CHECKS.due("one that is in it", g.remove(0, 1), 1);
        g.come(3);
        CHECKS.due("one that has come to it", g.remove(3, 1), 2);
    }

    private static void removeWhenTwentyWait() {
        CHECKS.sentence("4: IllegalStateException: as for add(): 20 wait");
        Refused refused = new Refused(CHECKS, BoundaryCallsTest::withTwentyWaiting);
        for (int m = 0; m < 3; m++) {
            int by = m;
            refused.state("remove(" + m + ", 1)", g -> g.remove(by, 1));
        }
        RatchetGroup g = withTwentyWaiting();
        g.commit(0, false);
        CHECKS.due("none wait any more", g.remove(0, 1), 1);
    }

    // --- promise 5

    private static void updateTellsHowManyWait() {
        CHECKS.sentence("5: UPDATE is proposed: how many wait");
        RatchetGroup g = new RatchetGroup();
        for (int i = 1; i <= 20; i++) {
            CHECKS.due("update(0)", g.update(0), i);
            CHECKS.due("waiting()", g.waiting(), i);
            CHECKS.due("a FRESH secret each", g.member(0, 2), 2 + i);
        }
        g.commit(0, true);
        CHECKS.due("from 1 on behind a commit", g.update(0), 1);
    }

    private static void updateByNoMember() {
        CHECKS.sentence("5: IndexOutOfBoundsException: no such member");
        Refused refused = new Refused(CHECKS, () -> Groups.of(2, true));
        for (int m : NO_MEMBERS) {
            refused.index("update(" + m + ")", g -> g.update(m));
        }
    }

    private static void updateByOneNotInTheLatestEpoch() {
        CHECKS.sentence("5: IllegalStateException: as for add(): not in the latest epoch");
        Refused refused = new Refused(CHECKS, BoundaryCallsTest::withAllSortsOfMembers);
        for (int m = 1; m < 7; m++) {
            int by = m;
            refused.state("update(" + m + ")", g -> g.update(by));
        }
        RatchetGroup g = withAllSortsOfMembers();
        CHECKS.due("one that is in it", g.update(0), 1);
        g.come(3);
        CHECKS.due("one that has come to it", g.update(3), 2);
    }

    private static void updateWhenTwentyWait() {
        CHECKS.sentence("5: IllegalStateException: as for add(): 20 wait");
        Refused refused = new Refused(CHECKS, BoundaryCallsTest::withTwentyWaiting);
        for (int m = 0; m < 3; m++) {
            int by = m;
            refused.state("update(" + m + ")", g -> g.update(by));
        }
        RatchetGroup g = withTwentyWaiting();
        g.commit(0, false);
        CHECKS.due("none wait any more", g.update(0), 1);
    }

    // --- promise 6

    private static void commitNumbersEpochs() {
        CHECKS.sentence("6: COMMIT: the new epoch's number");
        RatchetGroup g = new RatchetGroup();
        for (int i = 1; i < 60; i++) {
            CHECKS.due("commit", g.commit(0, i % 2 == 0), i);
            CHECKS.due("the committer's epoch", g.member(0, 0), i);
        }
    }

    private static void commitByNoMember() {
        CHECKS.sentence("6: IndexOutOfBoundsException: no such member");
        Refused refused = new Refused(CHECKS, BoundaryCallsTest::withTwentyWaiting);
        for (int m : NO_MEMBERS) {
            refused.index("commit(" + m + ", true)", g -> g.commit(m, true));
            refused.index("commit(" + m + ", false)", g -> g.commit(m, false));
        }
    }

    private static void commitByOneNotInTheLatestEpoch() {
        CHECKS.sentence("6: IllegalStateException: it is not in the latest epoch");
        Refused refused = new Refused(CHECKS, BoundaryCallsTest::withAllSortsOfMembers);
        for (int m = 1; m < 7; m++) {
            int by = m;
            refused.state("commit(" + m + ", true)", g -> g.commit(by, true));
            refused.state("commit(" + m + ", false)", g -> g.commit(by, false));
        }
        RatchetGroup g = withAllSortsOfMembers();
        g.come(3);
        CHECKS.due("one that has come to it", g.commit(3, false), 4);
    }

    private static void commitWhenThereAreSixty() {
        CHECKS.sentence("6: IllegalStateException: there are 60 epochs");
        Refused refused = new Refused(CHECKS, () -> {
            RatchetGroup g = withSixtyEpochs();
            g.add(0, g.offer(2));
            g.update(0);
            return g;
        });
        refused.state("commit(0, true)", g -> g.commit(0, true));
        refused.state("commit(0, false)", g -> g.commit(0, false));
        RatchetGroup g = withSixtyEpochs();
        CHECKS.due("the others are not refused: offer", g.offer(2), 1);
        CHECKS.due("add", g.add(0, 1), 1);
        CHECKS.due("come", g.come(1), 59);
        CHECKS.due("update", g.update(1), 2);
        CHECKS.throwsState("commit(1, true)", () -> g.commit(1, true));
    }

    // --- promise 7

    private static void comeToTheEpochBehindItsOwn() {
        CHECKS.sentence("7: A member COMES TO the epoch behind its own: its epoch then");
        RatchetGroup g = Groups.of(2, true);
        for (int i = 2; i < 60; i++) {
            g.commit(0, i % 3 == 0);
        }
        for (int i = 2; i < 60; i++) {
            CHECKS.due("come(1)", g.come(1), i);
            CHECKS.due("member(1, 0)", g.member(1, 0), i);
        }
        CHECKS.yes("has the last one's secret", g.has(1));
    }

    private static void comeJoinsTheEarliest() {
        CHECKS.sentence("7: JOINS (the earliest one in which it was added and that it has not joined)");
        RatchetGroup g = new RatchetGroup();
        g.offer(1);
        g.offer(1);
        g.offer(1);
        int[] order = {2, 0, 1};
        for (int offered : order) {
            g.add(0, offered);
            g.commit(0, true);
            g.remove(0, 1);
            g.commit(0, true);
        }
        for (int i = 0; i < 3; i++) {
            CHECKS.due("the other packages' keys", g.member(1, 2), 2 * (3 - i));
            CHECKS.due("come(1) joins", g.come(1), 1 + 2 * i);
            CHECKS.due("secret, leaf, node 1, and the others'", g.member(1, 2), 3 + 2 * (2 - i));
            CHECKS.due("come(1) is removed", g.come(1), NONE);
        }
        CHECKS.throwsState("it has joined each", () -> g.come(1));
        RatchetGroup later = Groups.of(2, true);
        later.commit(0, true);
        later.add(0, later.offer(2));
        later.commit(0, true);
        later.commit(0, true);
        CHECKS.due("not the latest one, nor the first", later.come(2), 3);
    }

    private static void comeOfOneThatWasRemoved() {
        CHECKS.sentence("7: NONE if it was removed");
        RatchetGroup g = withAllSortsOfMembers();
        CHECKS.due("come(6), before", g.come(6), 2);
        CHECKS.due("come(6), removed", g.come(6), NONE);
        CHECKS.due("member(6, 0)", g.member(6, 0), NONE);
        CHECKS.due("member(6, 1)", g.member(6, 1), NONE);
        CHECKS.due("member(6, 2)", g.member(6, 2), 0);
        CHECKS.no("has(6)", g.has(6));
        CHECKS.due("one beside it is not", g.come(1), 2);
        CHECKS.due("one beside it is not", g.come(1), 3);
    }

    private static void comeOfNoMember() {
        CHECKS.sentence("7: IndexOutOfBoundsException: no such member");
        Refused refused = new Refused(CHECKS, BoundaryCallsTest::withAllSortsOfMembers);
        for (int m : NO_MEMBERS) {
            refused.index("come(" + m + ")", g -> g.come(m));
        }
    }

    private static void comeOfOneInTheLatestEpoch() {
        CHECKS.sentence("7: IllegalStateException: it is in the latest epoch");
        Refused first = new Refused(CHECKS, RatchetGroup::new);
        first.state("come(0)", g -> g.come(0));
        Refused committer = new Refused(CHECKS, BoundaryCallsTest::withAllSortsOfMembers);
        committer.state("come(0)", g -> g.come(0));
        Refused joined = new Refused(CHECKS, () -> Groups.of(3, false));
        joined.state("come(2)", g -> g.come(2));
        Refused last = new Refused(CHECKS, () -> {
            RatchetGroup g = withSixtyEpochs();
            g.come(1);
            return g;
        });
        last.state("come(0) in epoch 59", g -> g.come(0));
        last.state("come(1) in epoch 59", g -> g.come(1));
    }

    private static void comeOfOneInNoneThatWasNotAdded() {
        CHECKS.sentence("7: IllegalStateException: in none and was not added");
        Refused sorts = new Refused(CHECKS, BoundaryCallsTest::withAllSortsOfMembers);
        sorts.state("come(2): removed at once", g -> g.come(2));
        sorts.state("come(4): has a package", g -> g.come(4));
        sorts.state("come(5): has done nothing", g -> g.come(5));
        sorts.state("come(15)", g -> g.come(15));
        Refused proposed = new Refused(CHECKS, () -> {
            RatchetGroup g = new RatchetGroup();
            g.add(0, g.offer(1));
            return g;
        });
        proposed.state("come(1): its ADD waits", g -> g.come(1));
        Refused didNotGo = new Refused(CHECKS, () -> {
            RatchetGroup g = Groups.of(2, true);
            g.commit(0, true);
            g.remove(0, 1);
            g.add(0, g.offer(1));
            g.commit(0, true);
            g.come(1);
            g.come(1);
            return g;
        });
        didNotGo.state("come(1): its ADD did not go", g -> g.come(1));
    }

    // --- promise 8

    private static void compromiseOfOneThatHoldsNothing() {
        CHECKS.sentence("8: how many different secrets it holds: none");
        RatchetGroup g = withAllSortsOfMembers();
        CHECKS.due("compromise(5)", g.compromise(5), 0);
        CHECKS.due("compromise(15)", g.compromise(15), 0);
        CHECKS.due("compromise(2), removed", g.compromise(2), 0);
        CHECKS.due("known()", g.known(), 0);
        CHECKS.due("compromise(3), both keys of its package", g.compromise(3), 2);
        CHECKS.due("known()", g.known(), 1);
    }

    private static void compromiseOfOneThatHoldsMost() {
        CHECKS.sentence("8: how many different secrets it holds: secret, leaf, path, updates, packages");
        RatchetGroup g = Groups.of(9, true);
        for (int i = 0; i < 52; i++) {
            g.offer(0);
        }
        for (int i = 0; i < 20; i++) {
            g.update(0);
        }
        CHECKS.due("member(0, 2)", g.member(0, 2), 1 + 1 + 4 + 20 + 104);
        CHECKS.due("compromise(0)", g.compromise(0), 1 + 1 + 4 + 20 + 104);
        CHECKS.due("compromise(0) again", g.compromise(0), 1 + 1 + 4 + 20 + 104);
        CHECKS.due("member(0, 2), it holds them yet", g.member(0, 2), 1 + 1 + 4 + 20 + 104);
        CHECKS.yes("its secret", g.isKnown(1));
        for (int node : new int[] {0, 1, 3, 7, 15}) {
            CHECKS.yes("its keys", g.isOpen(1, node));
        }
        RatchetGroup alone = new RatchetGroup();
        for (int i = 0; i < 60; i++) {
            alone.offer(0);
        }
        for (int i = 0; i < 20; i++) {
            alone.update(0);
        }
        CHECKS.due("all packages, and all that can wait", alone.compromise(0), 1 + 1 + 20 + 120);
    }

    private static void compromiseTellsNothingOfOthers() {
        CHECKS.sentence("8: A member is COMPROMISED: what it holds, and nothing else");
        RatchetGroup g = new RatchetGroup();
        g.offer(1);
        g.update(0);
        CHECKS.due("member(0, 2)", g.member(0, 2), 3);
        CHECKS.due("one that holds nothing", g.compromise(2), 0);
        CHECKS.due("member(0, 2)", g.member(0, 2), 3);
        CHECKS.due("one that holds a package", g.compromise(1), 2);
        CHECKS.due("known()", g.known(), 0);
        CHECKS.no("isOpen(0, 0)", g.isOpen(0, 0));
        RatchetGroup joined = unmergedBesideOthers();
        CHECKS.due("member(0, 2)", joined.member(0, 2), 4);
        CHECKS.due("one that holds its secret and leaf", joined.compromise(9), 2);
        CHECKS.no("isOpen(3, 1)", joined.isOpen(3, 1));
        CHECKS.no("isOpen(3, 3)", joined.isOpen(3, 3));
    }

    private static void compromiseOfNoMember() {
        CHECKS.sentence("8: IndexOutOfBoundsException: no such member");
        Refused refused = new Refused(CHECKS, () -> Groups.of(2, true));
        for (int m : NO_MEMBERS) {
            refused.index("compromise(" + m + ")", g -> g.compromise(m));
        }
    }

    // --- promise 9

    private static void memberInNone() {
        CHECKS.sentence("9: its epoch (what = 0), its leaf (1); NONE if it is in none");
        RatchetGroup g = withAllSortsOfMembers();
        int[] epochs = {3, 1, NONE, NONE, NONE, NONE, 1};
        int[] leaves = {0, 1, NONE, NONE, NONE, NONE, 3};
        int[] held = {4, 4, 0, 2, 2, 0, 3};
        for (int m = 0; m < 7; m++) {
            CHECKS.due("member(" + m + ", 0)", g.member(m, 0), epochs[m]);
            CHECKS.due("member(" + m + ", 1)", g.member(m, 1), leaves[m]);
            CHECKS.due("member(" + m + ", 2)", g.member(m, 2), held[m]);
            CHECKS.due("member(" + m + ", 3)", g.member(m, 3), 0);
        }
        CHECKS.due("member(15, 2)", g.member(15, 2), 0);
        CHECKS.due("member(15, 3)", g.member(15, 3), 0);
    }

    private static void memberWithAnotherWhat() {
        CHECKS.sentence("9: NONE for another what");
        RatchetGroup g = Groups.of(2, true);
        for (int what : new int[] {LOW, -4, -1, 4, 5, 256, HIGH}) {
            CHECKS.due("member(0, " + what + ")", g.member(0, what), NONE);
            CHECKS.due("member(9, " + what + ")", g.member(9, what), NONE);
        }
    }

    private static void memberThatIsNone() {
        CHECKS.sentence("9: NONE for another member");
        RatchetGroup g = Groups.of(16, true);
        for (int m : NO_MEMBERS) {
            for (int what = 0; what < 4; what++) {
                CHECKS.due("member(" + m + ", " + what + ")", g.member(m, what), NONE);
            }
        }
        CHECKS.due("the last one is there", g.member(15, 1), 15);
    }

    // --- promise 10

    private static void holdsOfOneInNone() {
        CHECKS.sentence("10: Whether a member that is in an epoch holds");
        RatchetGroup g = new RatchetGroup();
        g.add(0, g.offer(1));
        g.commit(0, true);
        for (int node = 0; node < 3; node++) {
            CHECKS.no("added and not come: holds(1, " + node + ")", g.holds(1, node));
            CHECKS.no("in none: holds(2, " + node + ")", g.holds(2, node));
        }
        for (int m : NO_MEMBERS) {
            CHECKS.no("holds(" + m + ", 0)", g.holds(m, 0));
        }
        g.come(1);
        CHECKS.yes("holds(1, 2)", g.holds(1, 2));
        CHECKS.no("holds(1, 0)", g.holds(1, 0));
        g.remove(0, 1);
        g.commit(0, true);
        CHECKS.no("removed at once: holds(1, 2)", g.holds(1, 2));
    }

    private static void holdsOfNodesThatAreNotThere() {
        CHECKS.sentence("10: the key that a node has");
        RatchetGroup g = Groups.of(3, true);
        for (int node : new int[] {LOW, -32, -1, 7, 8, 15, 30, 31, 32, 33, 64, 256, HIGH}) {
            CHECKS.no("holds(0, " + node + ")", g.holds(0, node));
        }
        CHECKS.no("a blank leaf", g.holds(0, 6));
        CHECKS.no("a blank node", g.holds(2, 5));
        CHECKS.yes("the top", g.holds(2, 3));
    }

    private static void holdsWhatOthersDo() {
        CHECKS.sentence("10: Whether a member holds, and not another one");
        RatchetGroup g = unmergedBesideOthers();
        int[][] due = {{0, 1, 3}, {2, 1, 3}, {}, {6, 3}, {}, {}, {}, {}, {}, {4}};
        for (int node = 0; node < 7; node++) {
            for (int m = 0; m < due.length; m++) {
                int count = 0;
                for (int x : due[m]) {
                    count += x == node ? 1 : 0;
                }
                CHECKS.due("holds(" + m + ", " + node + ")", g.holds(m, node) ? 1 : 0, count);
                CHECKS.due("member(0, 2)", g.member(0, 2), 4);
            }
        }
    }

    private static void holdsInItsOwnTree() {
        CHECKS.sentence("10: in its tree");
        RatchetGroup g = Groups.of(2, true);
        g.add(0, g.offer(2));
        g.commit(0, true);
        CHECKS.yes("holds(1, 1), as it was in epoch 1", g.holds(1, 1));
        CHECKS.no("node 3 is not there in epoch 1", g.holds(1, 3));
        g.come(1);
        CHECKS.yes("node 3 is there in epoch 2", g.holds(1, 3));
    }

    // --- promise 11

    private static void hasOfOneInNone() {
        CHECKS.sentence("11: Whether a member that is in an epoch holds its secret");
        RatchetGroup g = withAllSortsOfMembers();
        boolean[] due = {true, true, false, false, false, false, true};
        for (int m = 0; m < 7; m++) {
            CHECKS.due("has(" + m + ")", g.has(m) ? 1 : 0, due[m] ? 1 : 0);
        }
        CHECKS.no("has(15)", g.has(15));
        for (int m : NO_MEMBERS) {
            CHECKS.no("has(" + m + ")", g.has(m));
        }
        g.come(3);
        CHECKS.yes("has(3), come", g.has(3));
        g.come(6);
        CHECKS.yes("has(6), come", g.has(6));
        g.come(6);
        CHECKS.no("has(6), removed", g.has(6));
    }

    // --- promise 12

    private static void nodeThatIsBlank() {
        CHECKS.sentence("12: 0 if it is blank; NONE if it is blank (2)");
        RatchetGroup g = Groups.of(5, true);
        int[] blank = {9, 10, 11, 12, 13, 14, 5};
        int[] resolution = {1, 0, 1, 0, 0, 0, 2};
        for (int i = 0; i < blank.length; i++) {
            String at = "node(1, " + blank[i] + ", ";
            CHECKS.due(at + "0)", g.node(1, blank[i], 0), 0);
            CHECKS.due(at + "1)", g.node(1, blank[i], 1), 0);
            CHECKS.due(at + "2)", g.node(1, blank[i], 2), NONE);
            CHECKS.due(at + "3)", g.node(1, blank[i], 3), resolution[i]);
        }
        CHECKS.due("one that has a key", g.node(1, 7, 0), 1);
        CHECKS.due("one that has a key", g.node(1, 7, 2), 1);
        g.remove(0, 1);
        g.update(3);
        g.commit(0, false);
        for (int node : new int[] {1, 2, 5}) {
            CHECKS.due("blank now: node(2, " + node + ", 0)", g.node(2, node, 0), 0);
            CHECKS.due("blank now: node(2, " + node + ", 2)", g.node(2, node, 2), NONE);
        }
    }

    private static void nodeThatIsALeaf() {
        CHECKS.sentence("12: its unmerged leaves as bits: none of a leaf");
        RatchetGroup g = Groups.of(2, true);
        g.remove(0, 1);
        g.commit(0, true);
        g.add(0, g.offer(2));
        g.commit(0, false);
        CHECKS.due("an added leaf", g.node(3, 2, 1), 0);
        CHECKS.due("an old leaf", g.node(3, 0, 1), 0);
        CHECKS.due("a leaf of the first epoch", g.node(0, 0, 1), 0);
        CHECKS.due("its resolution", g.node(3, 2, 3), 1);
        CHECKS.due("the epoch in which it got its key", g.node(3, 2, 2), 3);
    }

    private static void nodeThatIsNone() {
        CHECKS.sentence("12: NONE if there is none such");
        RatchetGroup g = Groups.of(2, true);
        g.add(0, g.offer(2));
        g.commit(0, true);
        int[] tops = {0, 2, 6};
        for (int e = 0; e < 3; e++) {
            for (int what = 0; what < 4; what++) {
                CHECKS.yes("the last node of epoch " + e, g.node(e, tops[e], what) != NONE
                    || e == 2 && what == 2);
                for (int node : new int[] {LOW, -2, -1, tops[e] + 1, tops[e] + 2, 31, 32, HIGH}) {
                    CHECKS.due("node(" + e + ", " + node + ", " + what + ")", g.node(e, node, what), NONE);
                }
                for (int epoch : new int[] {LOW, -1, 3, 4, 59, 60, HIGH}) {
                    CHECKS.due("node(" + epoch + ", 0, " + what + ")", g.node(epoch, 0, what), NONE);
                }
            }
        }
        RatchetGroup last = withSixtyEpochs();
        CHECKS.due("node(59, 0, 0)", last.node(59, 0, 0), 1);
        CHECKS.due("node(60, 0, 0)", last.node(60, 0, 0), NONE);
    }

    private static void nodeWithAnotherWhat() {
        CHECKS.sentence("12: NONE for another what");
        RatchetGroup g = Groups.of(2, true);
        for (int what : new int[] {LOW, -4, -1, 4, 5, 256, HIGH}) {
            CHECKS.due("node(1, 1, " + what + ")", g.node(1, 1, what), NONE);
            CHECKS.due("node(0, 0, " + what + ")", g.node(0, 0, what), NONE);
        }
    }

    // --- promise 13

    private static void epochZeroHasNoCommitter() {
        CHECKS.sentence("13: the committer's leaf (1; NONE of epoch 0)");
        RatchetGroup g = new RatchetGroup();
        CHECKS.due("epoch(0, 1)", g.epoch(0, 1), NONE);
        g.commit(0, true);
        CHECKS.due("epoch(1, 1)", g.epoch(1, 1), 0);
        CHECKS.due("epoch(0, 1), still", g.epoch(0, 1), NONE);
        RatchetGroup full = Groups.of(16, false);
        full.commit(15, false);
        CHECKS.due("the last leaf", full.epoch(2, 1), 15);
    }

    private static void epochWithoutPathHasNoneThatCount() {
        CHECKS.sentence("13: nodes that count, as bits (2; 0 without a path)");
        RatchetGroup g = Groups.of(16, true);
        CHECKS.due("from leaf 0", g.epoch(1, 2), Groups.bits(1, 3, 7, 15));
        g.remove(0, 15);
        g.commit(0, false);
        Groups.allCome(g);
        g.add(0, g.offer(15));
        g.commit(14, false);
        CHECKS.due("without a path", g.epoch(3, 2), 0);
        g.come(15);
        g.commit(15, true);
        CHECKS.due("from leaf 15", g.epoch(4, 2), Groups.bits(29, 27, 23, 15));
    }

    private static void epochThatIsNone() {
        CHECKS.sentence("13: NONE if there is none such");
        RatchetGroup g = Groups.of(2, true);
        for (int e : new int[] {LOW, -2, -1, 2, 3, 59, 60, 256, HIGH}) {
            for (int what = 0; what < 7; what++) {
                CHECKS.due("epoch(" + e + ", " + what + ")", g.epoch(e, what), NONE);
            }
        }
        RatchetGroup last = withSixtyEpochs();
        CHECKS.due("epoch(59, 0)", last.epoch(59, 0), 1);
        CHECKS.due("epoch(60, 0)", last.epoch(60, 0), NONE);
    }

    private static void epochWithAnotherWhat() {
        CHECKS.sentence("13: NONE for another what");
        RatchetGroup g = Groups.of(2, true);
        for (int what : new int[] {LOW, -7, -1, 7, 8, 256, HIGH}) {
            CHECKS.due("epoch(0, " + what + ")", g.epoch(0, what), NONE);
            CHECKS.due("epoch(1, " + what + ")", g.epoch(1, what), NONE);
        }
    }

    // --- promises 14 and 15

    private static void epochsFromOneToSixty() {
        CHECKS.sentence("14: How many epochs there are");
        RatchetGroup g = new RatchetGroup();
        for (int i = 1; i < 60; i++) {
            CHECKS.due("epochs()", g.epochs(), i);
            g.commit(0, true);
        }
        CHECKS.due("epochs()", g.epochs(), 60);
        CHECKS.throwsState("commit(0, true)", () -> g.commit(0, true));
        CHECKS.due("epochs()", g.epochs(), 60);
    }

    private static void waitingFromNoneToTwenty() {
        CHECKS.sentence("15: How many proposals wait");
        CHECKS.due("of a new object", new RatchetGroup().waiting(), 0);
        RatchetGroup g = withTwentyWaiting();
        CHECKS.due("waiting()", g.waiting(), 20);
        CHECKS.throwsState("update(0)", () -> g.update(0));
        CHECKS.due("waiting()", g.waiting(), 20);
        g.commit(1, true);
        CHECKS.due("those that could not go have gone, too", g.waiting(), 0);
    }

    // --- promises 16, 17 and 18

    private static void isKnownOfNoEpoch() {
        CHECKS.sentence("16: Whether the intruder knows the secret of an epoch");
        RatchetGroup g = new RatchetGroup();
        CHECKS.no("at first", g.isKnown(0));
        g.compromise(0);
        CHECKS.yes("told", g.isKnown(0));
        for (int e : new int[] {LOW, -2, -1, 1, 2, 59, 60, 256, HIGH}) {
            CHECKS.no("isKnown(" + e + ")", g.isKnown(e));
        }
        RatchetGroup last = withSixtyEpochs();
        last.compromise(0);
        CHECKS.yes("isKnown(59)", last.isKnown(59));
        CHECKS.no("isKnown(58)", last.isKnown(58));
        CHECKS.no("isKnown(60)", last.isKnown(60));
    }

    private static void isOpenOfNoKey() {
        CHECKS.sentence("17: Whether the intruder knows the key that a node of an epoch's tree has");
        RatchetGroup g = Groups.of(3, true);
        CHECKS.no("at first", g.isOpen(1, 0));
        for (int m = 0; m < 3; m++) {
            g.compromise(m);
        }
        for (int node = 0; node < 5; node++) {
            CHECKS.yes("isOpen(1, " + node + ")", g.isOpen(1, node));
        }
        CHECKS.no("a blank node", g.isOpen(1, 5));
        CHECKS.no("a blank leaf", g.isOpen(1, 6));
        for (int node : new int[] {LOW, -32, -1, 7, 15, 30, 31, 32, 33, HIGH}) {
            CHECKS.no("isOpen(1, " + node + ")", g.isOpen(1, node));
        }
        for (int e : new int[] {LOW, -1, 2, 59, 60, HIGH}) {
            CHECKS.no("isOpen(" + e + ", 0)", g.isOpen(e, 0));
        }
        CHECKS.no("node 1 of epoch 0", g.isOpen(0, 1));
    }

    private static void knownFromNoneToAll() {
        CHECKS.sentence("18: How many secrets of epochs the intruder knows");
        RatchetGroup g = new RatchetGroup();
        for (int i = 1; i <= 60; i++) {
            CHECKS.due("known()", g.known(), i - 1);
            g.compromise(0);
            CHECKS.due("known()", g.known(), i);
            if (i < 60) {
                g.commit(0, true);
            }
        }
        g.compromise(0);
        CHECKS.due("each once", g.known(), 60);
    }
}
