import java.util.ArrayDeque;
import java.util.ArrayList;
import java.util.Arrays;
import java.util.Comparator;
import java.util.HashMap;
import java.util.HashSet;
import java.util.List;
import java.util.Map;
import java.util.Set;
import java.util.TreeSet;

/**
 * The document told a second time, with the Java library, as plainly as it goes: nothing is kept that
 * can be found anew, flooding sends its copies, and time goes from one branch that goes to the next.
 */
public final class Model {
    private static final int NONE = -1;

    private final int[][] cost = new int[10][10];
    private final Set<Integer> candidates = new TreeSet<>();
    private final List<Set<Integer>> memberSets = new ArrayList<>();
    private final Set<String> switchings = new HashSet<>();
    private final List<Branch> allBranches = new ArrayList<>();
    private final Map<String, Integer> counts = new HashMap<>();
    private final ArrayDeque<Copy> copies = new ArrayDeque<>();
    private final List<Packet> sentPackets = new ArrayList<>();
    private int switchLimit = 3;
    private int now;
    private int waste;

    /** A tree: of a source, or the shared one with NONE in its place. */
    private record Tree(int source, int group) {
    }

    private static final class Branch {
        final Tree tree;
        final int from;
        final int to;
        int goes = NONE;

        Branch(Tree tree, int from, int to) {
            this.tree = tree;
            this.from = from;
            this.to = to;
        }
    }

    private static final class Packet {
        final int source;
        final int group;
        final Set<Integer> receivers = new TreeSet<>();
        int doubleCount;

        Packet(int source, int group) {
            this.source = source;
            this.group = group;
        }
    }

    private record Copy(Packet packet, Tree tree, int from, int to) {
    }

    public Model() {
        for (int group = 0; group < 4; group++) {
            memberSets.add(new TreeSet<>());
        }
    }

    public int setLink(int router, int other, int newCost) {
        routers(router, other);
        if (router == other || newCost < 0 || newCost > 20) {
            throw new IllegalArgumentException();
        }
        int before = cost[router][other];
        cost[router][other] = newCost;
        cost[other][router] = newCost;
        if (before != newCost) {
            buildAnew();
        }
        return before;
    }

    public boolean setCandidate(int router, boolean isCandidate) {
        routers(router);
        boolean changes = isCandidate ? candidates.add(router) : candidates.remove(router);
        if (changes) {
            buildAnew();
        }
        return changes;
    }

    public int setLimit(int newLimit) {
        if (newLimit < 1 || newLimit > 100) {
            throw new IllegalArgumentException();
        }
        int before = switchLimit;
        switchLimit = newLimit;
        return before;
    }

    public int distance(int router, int other) {
        routers(router, other);
        return distancesFrom(router)[other];
    }

    private int[] distancesFrom(int router) {
        int[] best = new int[10];
        Arrays.fill(best, NONE);
        best[router] = 0;
        boolean shorter = true;
        while (shorter) {
            shorter = false;
            for (int from = 0; from < 10; from++) {
                for (int to = 0; to < 10; to++) {
                    if (best[from] != NONE && cost[from][to] != 0
                            && (best[to] == NONE || best[from] + cost[from][to] < best[to])) {
                        best[to] = best[from] + cost[from][to];
                        shorter = true;
                    }
                }
            }
        }
        return best;
    }

    public int nextHop(int router, int other) {
        routers(router, other);
        int[] toOther = distancesFrom(other);
        if (router == other || toOther[router] == NONE) {
            return NONE;
        }
        for (int hop = 0; hop < 10; hop++) {
            if (cost[router][hop] != 0 && toOther[hop] + cost[router][hop] == toOther[router]) {
                return hop;
            }
        }
        throw new IllegalStateException("the model is wrong: no next hop");
    }

    public int rendezvous(int group) {
        groups(group);
        return candidates.stream()
                .max(Comparator.comparingInt((Integer c) -> (31 * group + 17) * (53 * c + 29) % 997)
                        .thenComparing(Comparator.<Integer>reverseOrder()))
                .orElse(NONE);
    }

    public int join(int router, int group) {
        routers(router);
        groups(group);
        if (!memberSets.get(group).add(router)) {
            throw new IllegalStateException();
        }
        if (rendezvous(group) != NONE) {
            graft(router, new Tree(NONE, group));
        }
        return memberSets.get(group).size();
    }

    public int leave(int router, int group) {
        routers(router);
        groups(group);
        List<Tree> wanted = treesWantedBy(router, group);
        if (!memberSets.get(group).remove(router)) {
            throw new IllegalStateException();
        }
        for (int source = 0; source < 10; source++) {
            switchings.remove(router + " to " + source + " of " + group);
            counts.remove(router + " from " + source + " of " + group);
        }
        for (Tree tree : wanted) {
            neededNoLonger(router, tree, now);
        }
        return memberSets.get(group).size();
    }

    private List<Tree> treesWantedBy(int router, int group) {
        List<Tree> wanted = new ArrayList<>();
        for (int source = NONE; source < 10; source++) {
            if (wants(router, new Tree(source, group))) {
                wanted.add(new Tree(source, group));
            }
        }
        return wanted;
    }

    public int members(int group) {
        groups(group);
        return bits(memberSets.get(group));
    }

    public int switched(int source, int group) {
        routers(source);
        groups(group);
        Set<Integer> switchers = new TreeSet<>();
        for (int member = 0; member < 10; member++) {
            if (switchings.contains(member + " to " + source + " of " + group)) {
                switchers.add(member);
            }
        }
        return bits(switchers);
    }

    public int branches(int router, int group) {
        routers(router);
        groups(group);
        return bits(targets(router, new Tree(NONE, group)));
    }

    public int sourceBranches(int router, int source, int group) {
        routers(router, source);
        groups(group);
        return bits(targets(router, new Tree(source, group)));
    }

    public int leaving() {
        return (int) allBranches.stream().filter(branch -> branch.goes != NONE).count();
    }

    public int send(int source, int group) {
        routers(source);
        groups(group);
        if (sentPackets.size() >= 200) {
            throw new IllegalStateException();
        }
        Packet packet = new Packet(source, group);
        sentPackets.add(packet);
        if (memberSets.get(group).contains(source)) {
            packet.receivers.add(source);
        }
        int root = rendezvous(group);
        if (root != NONE && distancesFrom(source)[root] != NONE) {
            gets(root, packet, new Tree(NONE, group));
        }
        goOn(source, packet, new Tree(source, group));
        return sentPackets.size() - 1;
    }

    public int follow() {
        if (copies.isEmpty()) {
            return 0;
        }
        Copy copy = copies.removeFirst();
        if (cost[copy.from][copy.to] == 0) {
            waste++;
            return 1;
        }
        int root = rootOf(copy.tree);
        if (root == NONE || nextHop(copy.to, root) != copy.from) {
            waste++;
            return 2;
        }
        return gets(copy.to, copy.packet, copy.tree) ? 4 : 3;
    }

    public int followAll() {
        int followed = 0;
        while (follow() != 0) {
            followed++;
        }
        return followed;
    }

    public int queued() {
        return copies.size();
    }

    public int nextTo() {
        return copies.isEmpty() ? NONE : copies.peekFirst().to;
    }

    public int received(int packet) {
        packets(packet);
        return bits(sentPackets.get(packet).receivers);
    }

    public int doubles(int packet) {
        packets(packet);
        return sentPackets.get(packet).doubleCount;
    }

    public int wasted() {
        return waste;
    }

    public int pass(int seconds) {
        if (seconds < 1 || seconds > 100) {
            throw new IllegalArgumentException();
        }
        int end = now + seconds;
        int gone = 0;
        for (Branch next = firstToGo(end); next != null; next = firstToGo(end)) {
            allBranches.remove(next);
            neededNoLonger(next.from, next.tree, next.goes);
            gone++;
        }
        if (end / 10 != now / 10) {
            counts.clear();
        }
        now = end;
        return gone;
    }

    private Branch firstToGo(int end) {
        return allBranches.stream().filter(branch -> branch.goes != NONE && branch.goes <= end)
                .min(Comparator.comparingInt(branch -> branch.goes)).orElse(null);
    }

    public int clock() {
        return now;
    }

    public int floodMembers(int source, int group) {
        routers(source);
        groups(group);
        Set<Integer> reached = new TreeSet<>();
        reached.add(source);
        for (int[] copy : flood(source)) {
            reached.add(copy[1]);
        }
        reached.retainAll(memberSets.get(group));
        return bits(reached);
    }

    public int floodCopies(int source) {
        routers(source);
        return flood(source).size();
    }

    /** All copies that flooding makes, each with where it comes from and where it comes to. */
    private List<int[]> flood(int source) {
        List<int[]> made = new ArrayList<>();
        for (int to = 0; to < 10; to++) {
            if (cost[source][to] != 0) {
                made.add(new int[] {source, to});
            }
        }
        for (int next = 0; next < made.size(); next++) {
            int from = made.get(next)[0];
            int at = made.get(next)[1];
            if (at != source && nextHop(at, source) == from) {
                for (int to = 0; to < 10; to++) {
                    if (cost[at][to] != 0 && to != from) {
                        made.add(new int[] {at, to});
                    }
                }
            }
        }
        return made;
    }

    private int rootOf(Tree tree) {
        return tree.source == NONE ? rendezvous(tree.group) : tree.source;
    }

    private boolean wants(int router, Tree tree) {
        return tree.source == NONE ? memberSets.get(tree.group).contains(router)
                : switchings.contains(router + " to " + tree.source + " of " + tree.group);
    }

    private Branch branchTo(int router, Tree tree) {
        return allBranches.stream().filter(branch -> branch.to == router && branch.tree.equals(tree))
                .findFirst().orElse(null);
    }

    private Set<Integer> targets(int router, Tree tree) {
        Set<Integer> targets = new TreeSet<>();
        for (Branch branch : allBranches) {
            if (branch.from == router && branch.tree.equals(tree)) {
                targets.add(branch.to);
            }
        }
        return targets;
    }

    private void graft(int router, Tree tree) {
        Branch there = branchTo(router, tree);
        if (router == rootOf(tree)) {
            return;
        }
        if (there != null) {
            there.goes = NONE;
            return;
        }
        int hop = nextHop(router, rootOf(tree));
        if (hop != NONE) {
            allBranches.add(new Branch(tree, hop, router));
            graft(hop, tree);
        }
    }

    private void neededNoLonger(int router, Tree tree, int second) {
        Branch there = branchTo(router, tree);
        if (there != null && !wants(router, tree) && targets(router, tree).isEmpty()) {
            there.goes = second + 3;
        }
    }

    private void buildAnew() {
        allBranches.clear();
        for (int group = 0; group < 4; group++) {
            for (int source = NONE; source < 10; source++) {
                Tree tree = new Tree(source, group);
                for (int router = 0; router < 10 && rootOf(tree) != NONE; router++) {
                    if (wants(router, tree)) {
                        graft(router, tree);
                    }
                }
            }
        }
    }

    private boolean gets(int router, Packet packet, Tree tree) {
        boolean member = memberSets.get(packet.group).contains(router);
        boolean receives = member && packet.receivers.add(router);
        if (member && !receives) {
            packet.doubleCount++;
        }
        if (receives && tree.source == NONE) {
            count(router, packet);
        }
        goOn(router, packet, tree);
        return receives;
    }

    private void count(int member, Packet packet) {
        int count = counts.merge(member + " from " + packet.source + " of " + packet.group, 1,
                Integer::sum);
        String switching = member + " to " + packet.source + " of " + packet.group;
        if (count >= switchLimit && member != packet.source && switchings.add(switching)) {
            graft(member, new Tree(packet.source, packet.group));
        }
    }

    private void goOn(int router, Packet packet, Tree tree) {
        for (int to : targets(router, tree)) {
            if (copies.size() < 200) {
                copies.addLast(new Copy(packet, tree, router, to));
            } else {
                waste++;
            }
        }
    }

    private static int bits(Set<Integer> routers) {
        int set = 0;
        for (int router : routers) {
            set |= 1 << router;
        }
        return set;
    }

    private static void routers(int... numbers) {
        for (int number : numbers) {
            if (number < 0 || number > 9) {
                throw new IndexOutOfBoundsException();
            }
        }
    }

    private static void groups(int number) {
        if (number < 0 || number > 3) {
            throw new IndexOutOfBoundsException();
        }
    }

    private void packets(int number) {
        if (number < 0 || number >= sentPackets.size()) {
            throw new IndexOutOfBoundsException();
        }
    }
}
