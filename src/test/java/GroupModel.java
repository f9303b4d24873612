import java.util.ArrayList;
import java.util.HashMap;
import java.util.HashSet;
import java.util.List;
import java.util.Map;
import java.util.Set;
import java.util.TreeMap;
import java.util.TreeSet;

/**
 * The document told a second time, slowly and with sets: secrets are terms, what is known is a closure over
 * all terms, resolutions are lists. It shares no code and no way of counting with RatchetGroup.
 * A call that throws answers INDEX or STATE of Checks.
 */
final class GroupModel {
    private static final int NONE = -1;

    private static final class Node {
        Integer key;
        int born = NONE;
        final TreeSet<Integer> unmerged = new TreeSet<>();

        Node copy() {
            Node c = new Node();
            c.key = key;
            c.born = born;
            c.unmerged.addAll(unmerged);
            return c;
        }
    }

    private static final class Opened {
        int d;
        final TreeMap<Integer, Node> nodes = new TreeMap<>();
        final Map<Integer, Integer> memberAt = new HashMap<>();
        int secret;
        int committerLeaf = NONE;
        final TreeSet<Integer> counts = new TreeSet<>();
        final TreeSet<Integer> removed = new TreeSet<>();
        final TreeMap<Integer, Integer> updated = new TreeMap<>();
        final TreeSet<Integer> added = new TreeSet<>();
        final Map<Integer, Set<Integer>> keysFor = new HashMap<>();
        int encrypted;
    }

    private static final class Person {
        int epoch = NONE;
        int leaf = NONE;
        Integer secret;
        final Map<Integer, Integer> nodeKeys = new HashMap<>();
        final Set<Integer> updates = new HashSet<>();
        int stuck;
    }

    private static final class Offered {
        int by;
        int first;
        int leafKey;
        int usedIn = NONE;
        int leaf = NONE;
        boolean joined;
    }

    private record Asked(char kind, int about, int key, int leafOfWho) {
    }

    private record Term(String op, int a, int b) {
    }

    private final List<Term> terms = new ArrayList<>();
    private final Map<Term, Integer> numberOf = new HashMap<>();
    private final List<int[]> encryptions = new ArrayList<>();
    private final Set<Integer> intruder = new HashSet<>();
    private int freshMade = 0;
    private final int zero = term("ZERO", 0, 0);

    final List<Opened> opened = new ArrayList<>();
    private final Person[] people = new Person[16];
    private final List<Offered> offers = new ArrayList<>();
    private final List<Asked> row = new ArrayList<>();

    GroupModel() {
        for (int i = 0; i < 16; i++) {
            people[i] = new Person();
        }
        intruder.add(zero);
        Opened e = new Opened();
        e.nodes.put(0, new Node());
        e.nodes.get(0).key = fresh();
        e.nodes.get(0).born = 0;
        e.memberAt.put(0, 0);
        e.secret = fresh();
        opened.add(e);
        people[0].epoch = 0;
        people[0].leaf = 0;
        people[0].secret = e.secret;
        people[0].nodeKeys.put(0, e.nodes.get(0).key);
    }

    private int term(String op, int a, int b) {
        Term t = new Term(op, a, b);
        Integer known = numberOf.get(t);
        if (known != null) {
            return known;
        }
        terms.add(t);
        numberOf.put(t, terms.size() - 1);
        return terms.size() - 1;
    }

    private int fresh() {
        return term("FRESH", freshMade++, 0);
    }

    private void closeIntruder() {
        boolean more = true;
        while (more) {
            more = false;
            for (int[] e : encryptions) {
                if (intruder.contains(e[0])) {
                    more |= intruder.add(e[1]);
                }
            }
            for (int i = 0; i < terms.size(); i++) {
                Term t = terms.get(i);
                boolean can = switch (t.op()) {
                    case "NEXT", "KEY", "EPOCH", "INIT" -> intruder.contains(t.a());
                    case "JOINER" -> intruder.contains(t.a()) && intruder.contains(t.b());
                    default -> false;
                };
                if (can) {
                    more |= intruder.add(i);
                }
            }
        }
    }

    // --- the tree

    private static int height(int node) {
        int h = 0;
        while (node % 2 == 1) {
            h++;
            node /= 2;
        }
        return h;
    }

    private static boolean isUnder(int low, int high) {
        int h = height(high);
        return low != high && low > high - (1 << h) && low < high + (1 << h);
    }

    private static List<Integer> pathOf(Opened e, int node) {
        List<Integer> above = new ArrayList<>();
        for (int h = height(node) + 1; h <= e.d; h++) {
            for (int x : e.nodes.keySet()) {
                if (height(x) == h && isUnder(node, x)) {
                    above.add(x);
                }
            }
        }
        return above;
    }

    private static List<Integer> resolution(Opened e, int node) {
        List<Integer> r = new ArrayList<>();
        Node n = e.nodes.get(node);
        if (n.key != null) {
            r.add(node);
            for (int leaf : n.unmerged) {
                r.add(2 * leaf);
            }
            return r;
        }
        int h = height(node);
        if (h > 0) {
            r.addAll(resolution(e, node - (1 << (h - 1))));
            r.addAll(resolution(e, node + (1 << (h - 1))));
        }
        return r;
    }

    private static void makeBlank(Node n) {
        n.key = null;
        n.born = NONE;
        n.unmerged.clear();
    }

    private static boolean leafIsBlank(Opened e, int leaf) {
        return !e.nodes.containsKey(2 * leaf) || e.nodes.get(2 * leaf).key == null;
    }

    // --- the calls

    long offer(int m) {
        if (m < 0 || m > 15) {
            return Checks.INDEX;
        }
        if (offers.size() == 60) {
            return Checks.STATE;
        }
        Offered o = new Offered();
        o.by = m;
        o.first = fresh();
        o.leafKey = fresh();
        offers.add(o);
        return offers.size() - 1;
    }

    private boolean mayAsk(int m) {
        return people[m].epoch == opened.size() - 1 && row.size() < 20;
    }

    long add(int m, int offered) {
        if (m < 0 || m > 15 || offered < 0 || offered >= offers.size()) {
            return Checks.INDEX;
        }
        if (!mayAsk(m)) {
            return Checks.STATE;
        }
        row.add(new Asked('A', offered, NONE, NONE));
        return row.size();
    }

    long remove(int m, int leaf) {
        if (m < 0 || m > 15 || leaf < 0 || leaf > 15) {
            return Checks.INDEX;
        }
        if (!mayAsk(m)) {
            return Checks.STATE;
        }
        row.add(new Asked('R', leaf, NONE, NONE));
        return row.size();
    }

    long update(int m) {
        if (m < 0 || m > 15) {
            return Checks.INDEX;
        }
        if (!mayAsk(m)) {
            return Checks.STATE;
        }
        int key = fresh();
        people[m].updates.add(key);
        row.add(new Asked('U', m, key, people[m].leaf));
        return row.size();
    }

    long commit(int m, boolean asked) {
        if (m < 0 || m > 15) {
            return Checks.INDEX;
        }
        if (people[m].epoch != opened.size() - 1 || opened.size() == 60) {
            return Checks.STATE;
        }
        int latest = opened.size() - 1;
        Opened old = opened.get(latest);
        int myLeaf = people[m].leaf;

        // Which ones go is told before anything is done.
        Set<Integer> removes = new TreeSet<>();
        for (Asked a : row) {
            if (a.kind() == 'R' && !leafIsBlank(old, a.about()) && a.about() != myLeaf) {
                removes.add(a.about());
            }
        }
        TreeMap<Integer, Integer> updates = new TreeMap<>();
        for (int i = 0; i < row.size(); i++) {
            Asked a = row.get(i);
            boolean last = true;
            for (int k = i + 1; k < row.size(); k++) {
                last &= !(row.get(k).kind() == 'U' && row.get(k).leafOfWho() == a.leafOfWho());
            }
            if (a.kind() == 'U' && a.leafOfWho() != myLeaf && last && !removes.contains(a.leafOfWho())) {
                updates.put(a.leafOfWho(), a.key());
            }
        }
        Map<Integer, Integer> leafOfMember = new HashMap<>();
        old.memberAt.forEach((leaf, who) -> leafOfMember.put(who, leaf));
        Set<Integer> joining = new HashSet<>();
        List<Offered> adds = new ArrayList<>();
        for (Asked a : row) {
            if (a.kind() != 'A') {
                continue;
            }
            Offered o = offers.get(a.about());
            Integer leaf = leafOfMember.get(o.by);
            boolean itsRemoveGoes = leaf != null && removes.contains(leaf);
            boolean noLeaf = leaf == null || itsRemoveGoes;
            int at = people[o.by].epoch;
            boolean away = at == NONE || at == latest && itsRemoveGoes;
            boolean room = old.memberAt.size() - removes.size() + adds.size() < 16;
            if (o.usedIn == NONE && noLeaf && away && !joining.contains(o.by) && room) {
                joining.add(o.by);
                adds.add(o);
            }
        }

        Opened e = new Opened();
        int number = latest + 1;
        e.d = old.d;
        old.nodes.forEach((x, n) -> e.nodes.put(x, n.copy()));
        e.memberAt.putAll(old.memberAt);
        e.committerLeaf = myLeaf;
        applyRemoves(e, removes, latest);
        for (Map.Entry<Integer, Integer> u : updates.entrySet()) {
            Node n = e.nodes.get(2 * u.getKey());
            n.key = u.getValue();
            n.born = number;
            for (int x : pathOf(e, 2 * u.getKey())) {
                makeBlank(e.nodes.get(x));
            }
            e.updated.put(u.getKey(), u.getValue());
        }
        for (Offered o : adds) {
            applyAdd(e, o, number);
        }

        boolean withPath = asked || !removes.isEmpty() || !updates.isEmpty() || adds.isEmpty();
        TreeMap<Integer, Integer> pathSecrets = new TreeMap<>((a, b) -> Integer.compare(height(a), height(b)));
        int c = withPath ? applyPath(e, number, pathSecrets) : zero;
        int j = term("JOINER", term("INIT", old.secret, 0), c);
        e.secret = term("EPOCH", j, 0);
        for (Offered o : adds) {
            encrypt(e, o.first, j);
            if (withPath) {
                for (int x : pathSecrets.keySet()) {
                    if (isUnder(2 * o.leaf, x)) {
                        encrypt(e, o.first, pathSecrets.get(x));
                        break;
                    }
                }
            }
        }
        opened.add(e);
        row.clear();

        Person p = people[m];
        Map<Integer, Integer> had = new HashMap<>(p.nodeKeys);
        p.nodeKeys.clear();
        p.nodeKeys.put(2 * myLeaf, e.nodes.get(2 * myLeaf).key);
        for (int x : pathOf(e, 2 * myLeaf)) {
            if (e.counts.contains(x)) {
                p.nodeKeys.put(x, e.nodes.get(x).key);
            } else if (had.containsKey(x) && e.nodes.get(x).key != null) {
                p.nodeKeys.put(x, had.get(x));
            }
        }
        p.updates.clear();
        p.epoch = number;
        p.secret = e.secret;
        closeIntruder();
        return number;
    }

    private void applyRemoves(Opened e, Set<Integer> removes, int latest) {
        for (int leaf : removes) {
            makeBlank(e.nodes.get(2 * leaf));
            for (int x : pathOf(e, 2 * leaf)) {
                makeBlank(e.nodes.get(x));
            }
            int who = e.memberAt.remove(leaf);
            if (people[who].epoch == latest) {
                goOut(people[who]);
            }
            e.removed.add(leaf);
        }
        while (e.d > 0) {
            boolean allBlank = true;
            for (int leaf = 1 << (e.d - 1); leaf < 1 << e.d; leaf++) {
                allBlank &= leafIsBlank(e, leaf);
            }
            if (!allBlank) {
                return;
            }
            e.d--;
            e.nodes.tailMap((1 << (e.d + 1)) - 1).clear();
        }
    }

    private void applyAdd(Opened e, Offered o, int number) {
        int leaf = 0;
        while (leaf < 1 << e.d && !leafIsBlank(e, leaf)) {
            leaf++;
        }
        if (leaf == 1 << e.d) {
            e.d++;
            for (int x = (1 << e.d) - 1; x <= (1 << (e.d + 1)) - 2; x++) {
                e.nodes.put(x, new Node());
            }
        }
        e.nodes.get(2 * leaf).key = o.leafKey;
        e.nodes.get(2 * leaf).born = number;
        for (int x : pathOf(e, 2 * leaf)) {
            if (e.nodes.get(x).key != null) {
                e.nodes.get(x).unmerged.add(leaf);
            }
        }
        e.memberAt.put(leaf, o.by);
        e.added.add(leaf);
        o.usedIn = number;
        o.leaf = leaf;
    }

    private int applyPath(Opened e, int number, Map<Integer, Integer> pathSecrets) {
        int leafNode = 2 * e.committerLeaf;
        e.nodes.get(leafNode).key = fresh();
        e.nodes.get(leafNode).born = number;
        Map<Integer, List<Integer>> beside = new HashMap<>();
        for (int x : pathOf(e, leafNode)) {
            int half = 1 << (height(x) - 1);
            boolean left = leafNode < x;
            beside.put(x, resolution(e, left ? x + half : x - half));
        }
        Integer last = null;
        for (int x : pathOf(e, leafNode)) {
            Node n = e.nodes.get(x);
            makeBlank(n);
            if (beside.get(x).isEmpty()) {
                continue;
            }
            last = last == null ? fresh() : term("NEXT", last, 0);
            pathSecrets.put(x, last);
            e.counts.add(x);
            n.key = term("KEY", last, 0);
            n.born = number;
            Set<Integer> keys = new HashSet<>();
            for (int r : beside.get(x)) {
                if (r % 2 == 0 && e.added.contains(r / 2)) {
                    continue;
                }
                keys.add(e.nodes.get(r).key);
                encrypt(e, e.nodes.get(r).key, last);
            }
            e.keysFor.put(x, keys);
        }
        return last == null ? fresh() : term("NEXT", last, 0);
    }

    private void encrypt(Opened e, int key, int secret) {
        encryptions.add(new int[] {key, secret});
        e.encrypted++;
    }

    private static void goOut(Person p) {
        p.epoch = NONE;
        p.leaf = NONE;
        p.secret = null;
        p.nodeKeys.clear();
        p.updates.clear();
    }

    long come(int m) {
        if (m < 0 || m > 15) {
            return Checks.INDEX;
        }
        Person p = people[m];
        if (p.epoch == opened.size() - 1) {
            return Checks.STATE;
        }
        if (p.epoch == NONE) {
            return join(m);
        }
        Opened e = opened.get(p.epoch + 1);
        if (e.removed.contains(p.leaf)) {
            goOut(p);
            return NONE;
        }
        Set<Integer> before = new HashSet<>(p.nodeKeys.values());
        Integer mine = e.updated.get(p.leaf);
        if (mine != null) {
            before.remove(p.nodeKeys.get(2 * p.leaf));
            if (!p.updates.contains(mine)) {
                throw new AssertionError("the model's member lost its update");
            }
            before.add(mine);
            p.nodeKeys.put(2 * p.leaf, mine);
        }
        p.nodeKeys.entrySet().removeIf(k -> !e.nodes.containsKey(k.getKey())
                || !k.getValue().equals(e.nodes.get(k.getKey()).key));
        p.updates.clear();
        boolean stuck = false;
        List<Integer> mineCounting = pathOf(e, 2 * p.leaf);
        mineCounting.retainAll(e.counts);
        if (!mineCounting.isEmpty()) {
            stuck = true;
            for (int key : e.keysFor.get(mineCounting.get(0))) {
                stuck &= !before.contains(key);
            }
            if (!stuck) {
                for (int x : mineCounting) {
                    p.nodeKeys.put(x, e.nodes.get(x).key);
                }
            }
        }
        p.stuck += stuck ? 1 : 0;
        p.secret = p.secret == null || stuck ? null : Integer.valueOf(e.secret);
        p.epoch++;
        return p.epoch;
    }

    private long join(int m) {
        Offered best = null;
        for (Offered o : offers) {
            if (o.by == m && o.usedIn != NONE && !o.joined && (best == null || o.usedIn < best.usedIn)) {
                best = o;
            }
        }
        if (best == null) {
            return Checks.STATE;
        }
        Person p = people[m];
        Opened e = opened.get(best.usedIn);
        best.joined = true;
        p.epoch = best.usedIn;
        p.leaf = best.leaf;
        p.secret = e.secret;
        p.nodeKeys.put(2 * p.leaf, best.leafKey);
        for (int x : pathOf(e, 2 * p.leaf)) {
            if (e.counts.contains(x)) {
                p.nodeKeys.put(x, e.nodes.get(x).key);
            }
        }
        return p.epoch;
    }

    private Set<Integer> heldBy(int m) {
        Person p = people[m];
        Set<Integer> all = new HashSet<>(p.nodeKeys.values());
        all.addAll(p.updates);
        if (p.secret != null) {
            all.add(p.secret);
        }
        for (Offered o : offers) {
            if (o.by == m && !o.joined) {
                all.add(o.first);
                all.add(o.leafKey);
            }
        }
        return all;
    }

    long compromise(int m) {
        if (m < 0 || m > 15) {
            return Checks.INDEX;
        }
        Set<Integer> all = heldBy(m);
        intruder.addAll(all);
        closeIntruder();
        return all.size();
    }

    long member(int m, int what) {
        if (m < 0 || m > 15 || what < 0 || what > 3) {
            return NONE;
        }
        long[] answers = {people[m].epoch, people[m].leaf, heldBy(m).size(), people[m].stuck};
        return answers[what];
    }

    boolean holds(int m, int node) {
        if (m < 0 || m > 15 || people[m].epoch == NONE) {
            return false;
        }
        Node n = opened.get(people[m].epoch).nodes.get(node);
        return n != null && n.key != null && heldBy(m).contains(n.key);
    }

    boolean has(int m) {
        return m >= 0 && m <= 15 && people[m].secret != null;
    }

    private static int bits(Set<Integer> set) {
        int all = 0;
        for (int i : set) {
            all += 1 << i;
        }
        return all;
    }

    private Opened at(int epoch) {
        return epoch < 0 || epoch >= opened.size() ? null : opened.get(epoch);
    }

    long node(int epoch, int node, int what) {
        Opened e = at(epoch);
        if (e == null || !e.nodes.containsKey(node) || what < 0 || what > 3) {
            return NONE;
        }
        Node n = e.nodes.get(node);
        long[] answers = {n.key == null ? 0 : 1, bits(n.unmerged), n.born, resolution(e, node).size()};
        return answers[what];
    }

    long epoch(int epoch, int what) {
        Opened e = at(epoch);
        if (e == null || what < 0 || what > 6) {
            return NONE;
        }
        long[] answers = {e.d, e.committerLeaf, bits(e.counts), bits(e.removed), bits(e.updated.keySet()),
            bits(e.added), e.encrypted};
        return answers[what];
    }

    long epochs() {
        return opened.size();
    }

    long waiting() {
        return row.size();
    }

    boolean isKnown(int epoch) {
        return at(epoch) != null && intruder.contains(at(epoch).secret);
    }

    boolean isOpen(int epoch, int node) {
        Opened e = at(epoch);
        return e != null && e.nodes.containsKey(node) && e.nodes.get(node).key != null
            && intruder.contains(e.nodes.get(node).key);
    }

    long known() {
        return opened.stream().filter(e -> intruder.contains(e.secret)).count();
    }

    int offersMade() {
        return offers.size();
    }

    int stuckEver() {
        int all = 0;
        for (Person p : people) {
            all += p.stuck;
        }
        return all;
    }
}
