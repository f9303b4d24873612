import java.util.Arrays;

/**
 * A group's keys in a tree, epoch by epoch, and what an intruder knows of them.
 *
 * Secrets are numbers of rows in {@link Secrets}; NONE stands for a key or secret that is not there.
 */
public final class RatchetGroup {
    public static final int NONE = -1;

    private static final int MEMBERS = 16;
    private static final int LEAVES = 16;
    private static final int NODES = 31;
    private static final int MAX_DEPTH = 4;
    private static final int MAX_PACKAGES = 60;
    private static final int MAX_EPOCHS = 60;
    private static final int MAX_WAITING = 20;
    /** A member's epoch secret, its leaf's and its path's keys, its updates, and all packages' keys. */
    private static final int MAX_HELD = 1 + (MAX_DEPTH + 1) + MAX_WAITING + 2 * MAX_PACKAGES;

    private static final int ADD = 0;
    private static final int REMOVE = 1;
    private static final int UPDATE = 2;

    private final Secrets secrets = new Secrets();
    private final Member[] members = new Member[MEMBERS];
    private final Epoch[] epochs = new Epoch[MAX_EPOCHS];
    private int epochCount;
    private final KeyPackage[] packages = new KeyPackage[MAX_PACKAGES];
    private int packageCount;
    private final Proposal[] proposals = new Proposal[MAX_WAITING];
    private int proposalCount;
    /** The member at each leaf of the latest tree, whether it has come there or not. */
    private final int[] owners = new int[LEAVES];
    /** What gather() found; used again by each call. */
    private final int[] held = new int[MAX_HELD];

    public RatchetGroup() {
        for (int i = 0; i < MEMBERS; i++) {
            members[i] = new Member();
        }
        Arrays.fill(owners, NONE);
        Epoch first = new Epoch(0, new Tree(), NONE);
        first.tree.give(0, secrets.fresh(), 0);
        first.secret = secrets.fresh();
        epochs[0] = first;
        epochCount = 1;
        owners[0] = 0;
        members[0].enter(first, 0);
    }

    public int offer(int member) throws IndexOutOfBoundsException, IllegalStateException {
        if (!isMember(member)) {
            throw new IndexOutOfBoundsException();
        }
        if (packageCount >= MAX_PACKAGES) {
            throw new IllegalStateException();
        }
        int firstKey = secrets.fresh();
        packages[packageCount] = new KeyPackage(member, firstKey, secrets.fresh());
        packageCount++;
        return packageCount - 1;
    }

    public int add(int member, int offered) throws IndexOutOfBoundsException, IllegalStateException {
        if (!isMember(member) || offered < 0 || offered >= packageCount) {
            throw new IndexOutOfBoundsException();
        }
        if (!mayPropose(member)) {
            throw new IllegalStateException();
        }
        return propose(new Proposal(ADD, offered, NONE));
    }

    public int remove(int member, int leaf) throws IndexOutOfBoundsException, IllegalStateException {
        if (!isMember(member) || leaf < 0 || leaf >= LEAVES) {
            throw new IndexOutOfBoundsException();
        }
        if (!mayPropose(member)) {
            throw new IllegalStateException();
        }
        return propose(new Proposal(REMOVE, leaf, NONE));
    }

    public int update(int member) throws IndexOutOfBoundsException, IllegalStateException {
        if (!isMember(member)) {
            throw new IndexOutOfBoundsException();
        }
        if (!mayPropose(member)) {
            throw new IllegalStateException();
        }
        Member who = members[member];
        int key = secrets.fresh();
        who.keepUpdate(key);
        return propose(new Proposal(UPDATE, who.leaf, key));
    }

    public int commit(int member, boolean path) throws IndexOutOfBoundsException, IllegalStateException {
        if (!isMember(member)) {
            throw new IndexOutOfBoundsException();
        }
        if (!isInLatest(member) || epochCount >= MAX_EPOCHS) {
            throw new IllegalStateException();
        }
        Member committer = members[member];
        Epoch before = epochs[epochCount - 1];
        Epoch next = new Epoch(epochCount, new Tree(before.tree), committer.leaf);
        int firstRule = secrets.ruleCount();
        doRemoves(next);
        doUpdates(next);
        doAdds(next);
        boolean pathGoes = path || next.removed != 0 || next.updated != 0 || next.added == 0;
        int fromPath = pathGoes ? makePath(next) : Secrets.ZERO;
        openEpoch(before, next, fromPath);
        committer.moveByCommit(next);
        proposalCount = 0;
        secrets.spread(firstRule);
        return next.number;
    }

    public int come(int member) throws IndexOutOfBoundsException, IllegalStateException {
        if (!isMember(member)) {
            throw new IndexOutOfBoundsException();
        }
        Member who = members[member];
        if (who.epoch != NONE) {
            if (who.epoch >= epochCount - 1) {
                throw new IllegalStateException();
            }
            who.follow(epochs[who.epoch + 1]);
            return who.epoch;
        }
        int offered = earliestWelcome(member);
        if (offered == NONE) {
            throw new IllegalStateException();
        }
        joinBy(who, packages[offered]);
        return who.epoch;
    }

    public int compromise(int member) throws IndexOutOfBoundsException {
        if (!isMember(member)) {
            throw new IndexOutOfBoundsException();
        }
        int count = gather(member);
        for (int i = 0; i < count; i++) {
            secrets.learn(held[i]);
        }
        secrets.spread(0);
        return count;
    }

    public int member(int member, int what) {
        if (!isMember(member)) {
            return NONE;
        }
        Member who = members[member];
        switch (what) {
            case 0:
                return who.epoch;
            case 1:
                return who.leaf;
            case 2:
                return gather(member);
            case 3:
                return who.stuckCount;
            default:
                return NONE;
        }
    }

    public boolean holds(int member, int node) {
        if (!isMember(member) || !isEpoch(members[member].epoch)) {
            return false;
        }
        int key = epochs[members[member].epoch].tree.keyOf(node);
        if (key == NONE) {
            return false;
        }
        int count = gather(member);
        for (int i = 0; i < count; i++) {
            if (held[i] == key) {
                return true;
            }
        }
        return false;
    }

    public boolean has(int member) {
        return isMember(member) && members[member].secret != NONE;
    }

    public int node(int epoch, int node, int what) {
        if (!isEpoch(epoch) || !epochs[epoch].tree.isThere(node)) {
            return NONE;
        }
        Tree tree = epochs[epoch].tree;
        switch (what) {
            case 0:
                return tree.keyOf(node) == NONE ? 0 : 1;
            case 1:
                return tree.unmergedAt(node);
            case 2:
                return tree.bornAt(node);
            case 3:
                return Integer.bitCount(tree.resolution(node, heightOf(node)));
            default:
                return NONE;
        }
    }

    public int epoch(int epoch, int what) {
        if (!isEpoch(epoch)) {
            return NONE;
        }
        Epoch of = epochs[epoch];
        switch (what) {
            case 0:
                return of.tree.depth;
            case 1:
                return of.committerLeaf;
            case 2:
                return of.counting;
            case 3:
                return of.removed;
            case 4:
                return of.updated;
            case 5:
                return of.added;
            case 6:
                return of.encrypted;
            default:
                return NONE;
        }
    }

    public int epochs() {
        return epochCount;
    }

    public int waiting() {
        return proposalCount;
    }

    public boolean isKnown(int epoch) {
        return isEpoch(epoch) && secrets.isOut(epochs[epoch].secret);
    }

    public boolean isOpen(int epoch, int node) {
        return isEpoch(epoch) && secrets.isOut(epochs[epoch].tree.keyOf(node));
    }

    public int known() {
        int count = 0;
        for (int i = 0; i < epochCount; i++) {
            if (secrets.isOut(epochs[i].secret)) {
                count++;
            }
        }
        return count;
    }

    // --- what a call asks before it acts

    private static boolean isMember(int number) {
        return number >= 0 && number < MEMBERS;
    }

    private boolean isEpoch(int number) {
        return number >= 0 && number < epochCount;
    }

    private boolean isInLatest(int number) {
        return members[number].epoch == epochCount - 1;
    }

    private boolean mayPropose(int number) {
        return isInLatest(number) && proposalCount < MAX_WAITING;
    }

    private int propose(Proposal made) {
        proposals[proposalCount] = made;
        proposalCount++;
        return proposalCount;
    }

    // --- the parts of a commit

    private void doRemoves(Epoch next) {
        for (int i = 0; i < proposalCount; i++) {
            Proposal asked = proposals[i];
            // A leaf that was removed by an earlier one is blank by now, so a second REMOVE can't go.
            if (asked.kind == REMOVE && asked.about != next.committerLeaf
                    && next.tree.keyOf(leafNode(asked.about)) != NONE) {
                next.tree.blankLeafAndPath(asked.about);
                next.removed |= bit(asked.about);
                dismiss(asked.about);
            }
        }
        next.tree.shrink();
    }

    private void dismiss(int leaf) {
        int owner = owners[leaf];
        owners[leaf] = NONE;
        if (isMember(owner) && isInLatest(owner)) {
            members[owner].leave();
        }
    }

    private void doUpdates(Epoch next) {
        for (int i = 0; i < proposalCount; i++) {
            Proposal asked = proposals[i];
            // An earlier one of the same leaf is written over, so that the latest one is what went.
            if (asked.kind == UPDATE && asked.about != next.committerLeaf
                    && (next.removed & bit(asked.about)) == 0) {
                next.tree.blankLeafAndPath(asked.about);
                next.tree.give(leafNode(asked.about), asked.key, next.number);
                next.updated |= bit(asked.about);
            }
        }
    }

    private void doAdds(Epoch next) {
        for (int i = 0; i < proposalCount; i++) {
            if (proposals[i].kind == ADD && mayBeAdded(packages[proposals[i].about])) {
                addBy(packages[proposals[i].about], next);
            }
        }
    }

    /**
     * Asked when the REMOVEs are done and the ADDs before are, too: so a member whose REMOVE goes is in no
     * epoch by now, and one who has another ADD that goes has a leaf.
     */
    private boolean mayBeAdded(KeyPackage offered) {
        return offered.epoch == NONE && members[offered.member].epoch == NONE && !hasLeaf(offered.member);
    }

    private boolean hasLeaf(int number) {
        for (int i = 0; i < LEAVES; i++) {
            if (owners[i] == number) {
                return true;
            }
        }
        return false;
    }

    private void addBy(KeyPackage offered, Epoch next) {
        int leaf = next.tree.makeRoom();
        if (leaf == NONE) {
            return;
        }
        next.tree.give(leafNode(leaf), offered.leafKey, next.number);
        next.tree.markUnmerged(leaf);
        next.added |= bit(leaf);
        owners[leaf] = offered.member;
        offered.epoch = next.number;
        offered.leaf = leaf;
    }

    /** Gives new keys to the committer's leaf and path; answers c. */
    private int makePath(Epoch next) {
        int leaf = next.committerLeaf;
        next.tree.give(leafNode(leaf), secrets.fresh(), next.number);
        int pathSecret = NONE;
        for (int height = 1; height <= next.tree.depth; height++) {
            int at = pathNode(leaf, height);
            int side = sideNode(leaf, height);
            int receivers = next.tree.resolution(side, height - 1);
            if (receivers == 0) {
                next.tree.blank(at);
                continue;
            }
            pathSecret = pathSecret == NONE ? secrets.fresh() : secrets.derive(pathSecret);
            sendToNodes(next, receivers & ~leafNodes(next.added), pathSecret);
            sendToAdded(next, side, height - 1, pathSecret);
            next.tree.give(at, secrets.derive(pathSecret), next.number);
            next.counting |= bit(at);
        }
        return pathSecret == NONE ? secrets.fresh() : secrets.derive(pathSecret);
    }

    private void sendToNodes(Epoch next, int receivers, int secret) {
        for (int i = 0; i < NODES; i++) {
            if ((receivers & bit(i)) != 0) {
                encrypt(next, next.tree.keyOf(i), secret);
            }
        }
    }

    /** The lowest node that counts and is above an added leaf is the one to whose side the leaf lies. */
    private void sendToAdded(Epoch next, int side, int sideHeight, int secret) {
        for (int i = 0; i < packageCount; i++) {
            if (packages[i].epoch == next.number && pathNode(packages[i].leaf, sideHeight) == side) {
                encrypt(next, packages[i].firstKey, secret);
            }
        }
    }

    private void openEpoch(Epoch before, Epoch next, int fromPath) {
        int joiner = secrets.deriveOfTwo(secrets.derive(before.secret), fromPath);
        for (int i = 0; i < packageCount; i++) {
            if (packages[i].epoch == next.number) {
                encrypt(next, packages[i].firstKey, joiner);
            }
        }
        next.secret = secrets.derive(joiner);
        epochs[epochCount] = next;
        epochCount++;
    }

    private void encrypt(Epoch next, int key, int secret) {
        secrets.tie(key, NONE, secret);
        next.encrypted++;
    }

    // --- joining, and what a member holds

    /** The package by which a member was added earliest of those by which it has not joined, or NONE. */
    private int earliestWelcome(int number) {
        int best = NONE;
        for (int i = 0; i < packageCount; i++) {
            KeyPackage offered = packages[i];
            if (offered.member == number && !offered.joined && offered.epoch != NONE
                    && (best == NONE || offered.epoch < packages[best].epoch)) {
                best = i;
            }
        }
        return best;
    }

    private void joinBy(Member who, KeyPackage offered) {
        if (!isEpoch(offered.epoch)) {
            return;
        }
        Epoch opened = epochs[offered.epoch];
        offered.joined = true;
        who.enter(opened, offered.leaf);
        who.learnPath(opened, opened.lowestCounting(offered.leaf));
    }

    /**
     * Writes all that a member holds into the row held; answers how much that is. Nothing is written twice:
     * each key was made for one node, one update or one package, and a package's is left out once it is
     * the leaf's.
     */
    private int gather(int number) {
        int count = members[number].gatherInto(held);
        for (int i = 0; i < packageCount; i++) {
            if (packages[i].member == number && !packages[i].joined && count + 1 < MAX_HELD) {
                held[count] = packages[i].firstKey;
                held[count + 1] = packages[i].leafKey;
                count += 2;
            }
        }
        return count;
    }

    // --- where nodes lie

    private static int bit(int number) {
        return 1 << number;
    }

    private static int leafNode(int leaf) {
        return 2 * leaf;
    }

    /** The node at a height above a leaf; the leaf itself at height 0. */
    private static int pathNode(int leaf, int height) {
        return ((leaf >> height) << (height + 1)) + (1 << height) - 1;
    }

    /** Of the two nodes below the one at a height above a leaf, the one that is not above the leaf. */
    private static int sideNode(int leaf, int height) {
        return pathNode(leaf ^ (1 << (height - 1)), height - 1);
    }

    private static int heightOf(int node) {
        return Integer.bitCount(node & ~(node + 1));
    }

    /** Leaves as bits, turned into their nodes as bits. */
    private static int leafNodes(int leaves) {
        int nodes = 0;
        for (int i = 0; i < LEAVES; i++) {
            if ((leaves & bit(i)) != 0) {
                nodes |= bit(leafNode(i));
            }
        }
        return nodes;
    }

    /** All secrets, what can be had from what, and which of them the intruder knows. */
    private static final class Secrets {
        static final int ZERO = 0;
        private static final int FIRST_ROOM = 64;
        // Above what 60 packages, and 60 epochs with 20 proposals each, can bring.
        private static final int MAX_ROOM = 4096;

        private byte[] out = new byte[FIRST_ROOM];
        private int made;
        // Who knows from[i], and also[i] if that is not NONE, knows to[i].
        private int[] from = new int[FIRST_ROOM];
        private int[] also = new int[FIRST_ROOM];
        private int[] to = new int[FIRST_ROOM];
        private int rules;

        Secrets() {
            out[ZERO] = 1;
            made = 1;
        }

        int fresh() {
            if (made >= out.length && made < MAX_ROOM) {
                out = Arrays.copyOf(out, 2 * out.length);
            }
            if (made >= out.length) {
                return NONE;
            }
            made++;
            return made - 1;
        }

        /** NEXT, KEY, EPOCH or INIT of a secret: no one of these is ever asked for twice. */
        int derive(int source) {
            return deriveOfTwo(source, NONE);
        }

        int deriveOfTwo(int source, int second) {
            int derived = fresh();
            tie(source, second, derived);
            return derived;
        }

        void tie(int source, int second, int target) {
            if (rules >= to.length && rules < MAX_ROOM) {
                from = Arrays.copyOf(from, 2 * from.length);
                also = Arrays.copyOf(also, 2 * also.length);
                to = Arrays.copyOf(to, 2 * to.length);
            }
            if (rules >= to.length) {
                return;
            }
            from[rules] = source;
            also[rules] = second;
            to[rules] = target;
            rules++;
        }

        int ruleCount() {
            return rules;
        }

        void learn(int secret) {
            if (secret >= 0 && secret < made) {
                out[secret] = 1;
            }
        }

        boolean isOut(int secret) {
            return secret >= 0 && secret < made && out[secret] != 0;
        }

        /**
         * Lets the intruder draw what follows. One pass is enough: all rules that give a secret were made
         * before the first rule that uses it.
         */
        void spread(int firstRule) {
            for (int i = Math.max(firstRule, 0); i < rules; i++) {
                if (isOut(from[i]) && (also[i] == NONE || isOut(also[i]))) {
                    learn(to[i]);
                }
            }
        }
    }

    /** The tree of one epoch. Nodes that are not there are blank. */
    private static final class Tree {
        int depth;
        private final int[] keys;
        private final int[] born;
        private final int[] unmerged;

        Tree() {
            keys = new int[NODES];
            born = new int[NODES];
            unmerged = new int[NODES];
            Arrays.fill(keys, NONE);
            Arrays.fill(born, NONE);
        }

        Tree(Tree old) {
            depth = old.depth;
            keys = Arrays.copyOf(old.keys, NODES);
            born = Arrays.copyOf(old.born, NODES);
            unmerged = Arrays.copyOf(old.unmerged, NODES);
        }

        boolean isThere(int at) {
            return at >= 0 && at < (2 << depth) - 1;
        }

        int keyOf(int at) {
            return isThere(at) ? keys[at] : NONE;
        }

        int bornAt(int at) {
            return isThere(at) ? born[at] : NONE;
        }

        int unmergedAt(int at) {
            return isThere(at) ? unmerged[at] : 0;
        }

        void give(int at, int key, int number) {
            if (isThere(at)) {
                keys[at] = key;
                born[at] = number;
                unmerged[at] = 0;
            }
        }

        void blank(int at) {
            give(at, NONE, NONE);
        }

        void blankLeafAndPath(int leaf) {
            for (int height = 0; height <= depth; height++) {
                blank(pathNode(leaf, height));
            }
        }

        void markUnmerged(int leaf) {
            for (int height = 1; height <= depth; height++) {
                int at = pathNode(leaf, height);
                if (keyOf(at) != NONE) {
                    unmerged[at] |= bit(leaf);
                }
            }
        }

        /** Drops right halves whose leaves are all blank. */
        void shrink() {
            while (depth > 0 && firstLeafWithKey(1 << (depth - 1)) == NONE) {
                // So that what a later growth brings back is blank.
                for (int i = (1 << depth) - 1; i < (2 << depth) - 1; i++) {
                    blank(i);
                }
                depth--;
            }
        }

        private int firstLeafWithKey(int start) {
            for (int i = start; i < 1 << depth; i++) {
                if (keyOf(leafNode(i)) != NONE) {
                    return i;
                }
            }
            return NONE;
        }

        /** The lowest blank leaf, if need be of a tree that has grown for it; NONE if it can't grow. */
        int makeRoom() {
            for (int i = 0; i < 1 << depth; i++) {
                if (keyOf(leafNode(i)) == NONE) {
                    return i;
                }
            }
            if (depth >= MAX_DEPTH) {
                return NONE;
            }
            depth++;
            return 1 << (depth - 1);
        }

        /** A node's resolution, as bits; its height says how deep this may go. */
        int resolution(int at, int height) {
            if (!isThere(at)) {
                return 0;
            }
            if (keys[at] != NONE) {
                return bit(at) | leafNodes(unmerged[at]);
            }
            if (height <= 0) {
                return 0;
            }
            int step = 1 << (height - 1);
            return resolution(at - step, height - 1) | resolution(at + step, height - 1);
        }
    }

    /** One epoch, and what was done by the commit that opened it; sets of leaves and nodes are bits. */
    private static final class Epoch {
        final int number;
        final Tree tree;
        final int committerLeaf;
        int secret = NONE;
        int counting;
        int removed;
        int updated;
        int added;
        int encrypted;

        Epoch(int number, Tree tree, int committerLeaf) {
            this.number = number;
            this.tree = tree;
            this.committerLeaf = committerLeaf;
        }

        /** The height of the lowest node that counts and is above a leaf; NONE if there is none. */
        int lowestCounting(int leaf) {
            for (int height = 1; height <= tree.depth; height++) {
                if ((counting & bit(pathNode(leaf, height))) != 0) {
                    return height;
                }
            }
            return NONE;
        }
    }

    /** A member: where it is, and what it holds but for its packages' keys. */
    private static final class Member {
        int epoch = NONE;
        int leaf = NONE;
        int secret = NONE;
        int stuckCount;
        /** The held key of the node at each height above the leaf; at 0 the leaf's own. */
        private final int[] keys = new int[MAX_DEPTH + 1];
        private final int[] updates = new int[MAX_WAITING];
        private int updateCount;

        Member() {
            Arrays.fill(keys, NONE);
        }

        void keepUpdate(int key) {
            if (updateCount < MAX_WAITING) {
                updates[updateCount] = key;
                updateCount++;
            }
        }

        /** Enters an epoch anew, with its secret and the leaf's key alone. */
        void enter(Epoch opened, int place) {
            leave();
            epoch = opened.number;
            leaf = place;
            secret = opened.secret;
            keys[0] = opened.tree.keyOf(leafNode(place));
        }

        void leave() {
            epoch = NONE;
            leaf = NONE;
            secret = NONE;
            updateCount = 0;
            Arrays.fill(keys, NONE);
        }

        /** The committer's way into the epoch that it opened. */
        void moveByCommit(Epoch next) {
            epoch = next.number;
            secret = secret == NONE ? NONE : next.secret;
            updateCount = 0;
            dropOldKeys(next.tree);
            keys[0] = next.tree.keyOf(leafNode(leaf));
            learnPath(next, next.lowestCounting(leaf));
        }

        /** Comes to the epoch behind its own. */
        void follow(Epoch next) {
            if ((next.removed & bit(leaf)) != 0) {
                leave();
                return;
            }
            if ((next.updated & bit(leaf)) != 0) {
                keys[0] = next.tree.keyOf(leafNode(leaf));
            }
            int lowest = next.lowestCounting(leaf);
            boolean stuck = lowest != NONE && !canOpen(next, lowest);
            dropOldKeys(next.tree);
            if (stuck) {
                stuckCount++;
            } else {
                learnPath(next, lowest);
            }
            epoch = next.number;
            secret = secret == NONE || stuck ? NONE : next.secret;
            updateCount = 0;
        }

        /** Whether a key is held for which the path secret of the node at that height was encrypted. */
        private boolean canOpen(Epoch next, int height) {
            int side = pathNode(leaf, height - 1);
            int receivers = next.tree.resolution(side, height - 1) & ~leafNodes(next.added);
            for (int i = 0; i < height && i <= MAX_DEPTH; i++) {
                int at = pathNode(leaf, i);
                if ((receivers & bit(at)) != 0 && keys[i] == next.tree.keyOf(at)) {
                    return true;
                }
            }
            return false;
        }

        private void dropOldKeys(Tree tree) {
            for (int i = 0; i <= MAX_DEPTH; i++) {
                if (keys[i] != tree.keyOf(pathNode(leaf, i))) {
                    keys[i] = NONE;
                }
            }
        }

        /** Takes the keys of the nodes that count from a height on; none if that is NONE. */
        void learnPath(Epoch opened, int lowest) {
            if (lowest == NONE) {
                return;
            }
            for (int i = Math.max(lowest, 1); i <= MAX_DEPTH; i++) {
                int at = pathNode(leaf, i);
                if ((opened.counting & bit(at)) != 0) {
                    keys[i] = opened.tree.keyOf(at);
                }
            }
        }

        int gatherInto(int[] row) {
            int count = 0;
            if (secret != NONE) {
                row[count] = secret;
                count++;
            }
            for (int i = 0; i <= MAX_DEPTH; i++) {
                if (keys[i] != NONE) {
                    row[count] = keys[i];
                    count++;
                }
            }
            for (int i = 0; i < updateCount; i++) {
                row[count] = updates[i];
                count++;
            }
            return count;
        }
    }

    /** Two fresh keys for joining, and the epoch and leaf that they were used for. */
    private static final class KeyPackage {
        final int member;
        final int firstKey;
        final int leafKey;
        int epoch = NONE;
        int leaf = NONE;
        boolean joined;

        KeyPackage(int member, int firstKey, int leafKey) {
            this.member = member;
            this.firstKey = firstKey;
            this.leafKey = leafKey;
        }
    }

    /** About a package (ADD) or a leaf (REMOVE, UPDATE); an UPDATE has a key, too. */
    private static final class Proposal {
        final int kind;
        final int about;
        final int key;

        Proposal(int kind, int about, int key) {
            this.kind = kind;
            this.about = about;
            this.key = key;
        }
    }
}
