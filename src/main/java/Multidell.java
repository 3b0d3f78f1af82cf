import java.util.Arrays;

/**
 * A network that hands packets to groups of receivers, as ../shared/DOC.md tells it.
 *
 * <p>All rows are made by the constructor, so that no call makes an object; a set of routers is a
 * number with the bit r for the router r. The stores inside look at each index themselves, so that
 * a number that names nothing answers NONE or 0 and never reaches an array.
 */
public final class Multidell {
    public static final int NONE = -1;
    public static final int NOTHING = 0, LOST = 1, DROPPED = 2, PASSED = 3, RECEIVED = 4;

    private static final int ROUTERS = 10;
    private static final int GROUPS = 4;
    private static final int TREES = GROUPS + GROUPS * ROUTERS;
    private static final int MOST_COST = 20;
    private static final int MOST_LIMIT = 100;
    private static final int MOST_SECONDS = 100;
    private static final int MOST_PACKETS = 200;
    private static final int MOST_COPIES = 200;
    private static final int FIRST_LIMIT = 3;
    private static final int LEAVING_SECONDS = 3;
    private static final int SPAN_SECONDS = 10;
    // Far above what 200 copies in a tree of 10 routers can become.
    private static final int MOST_FOLLOWED = 1000000;

    private final Routes routes;
    private final Forest forest;
    private final Packets packets;
    private final CopyQueue queue;
    private final Counts counts;
    private int candidates;
    private int limit;
    private int now;
    private int wastedCopies;

    public Multidell() {
        routes = new Routes();
        forest = new Forest();
        packets = new Packets();
        queue = new CopyQueue();
        counts = new Counts();
        limit = FIRST_LIMIT;
    }

    // ---- links and candidates

    public int setLink(int router, int other, int cost)
            throws IndexOutOfBoundsException, IllegalArgumentException {
        checkRouter(router);
        checkRouter(other);
        if (router == other || cost < 0 || cost > MOST_COST) {
            throw new IllegalArgumentException("no such link or cost");
        }
        int before = routes.costOf(router, other);
        if (before != cost) {
            routes.change(router, other, cost);
            forest.buildAnew(routes);
        }
        return before;
    }

    public boolean setCandidate(int router, boolean isCandidate) throws IndexOutOfBoundsException {
        checkRouter(router);
        if (has(candidates, router) == isCandidate) {
            return false;
        }
        candidates ^= bit(router);
        for (int group = 0; group < GROUPS; group++) {
            forest.setRoot(sharedTree(group), bestCandidate(group));
        }
        forest.buildAnew(routes);
        return true;
    }

    public int setLimit(int limit) throws IllegalArgumentException {
        if (limit < 1 || limit > MOST_LIMIT) {
            throw new IllegalArgumentException("no such limit");
        }
        int before = this.limit;
        this.limit = limit;
        return before;
    }

    public int distance(int router, int other) throws IndexOutOfBoundsException {
        checkRouter(router);
        checkRouter(other);
        return routes.distanceOf(router, other);
    }

    public int nextHop(int router, int other) throws IndexOutOfBoundsException {
        checkRouter(router);
        checkRouter(other);
        return routes.hopOf(router, other);
    }

    public int rendezvous(int group) throws IndexOutOfBoundsException {
        checkGroup(group);
        return forest.rootOf(sharedTree(group));
    }

    // ---- members

    public int join(int router, int group) throws IndexOutOfBoundsException, IllegalStateException {
        checkRouter(router);
        checkGroup(group);
        if (isMember(router, group)) {
            throw new IllegalStateException("a member already");
        }
        forest.want(sharedTree(group), router, routes);
        return Integer.bitCount(membersOf(group));
    }

    public int leave(int router, int group) throws IndexOutOfBoundsException, IllegalStateException {
        checkRouter(router);
        checkGroup(group);
        if (!isMember(router, group)) {
            throw new IllegalStateException("no member");
        }
        forest.unwant(sharedTree(group), router, now);
        for (int source = 0; source < ROUTERS; source++) {
            forest.unwant(sourceTree(source, group), router, now);
            counts.forget(router, source, group);
        }
        return Integer.bitCount(membersOf(group));
    }

    public int members(int group) throws IndexOutOfBoundsException {
        checkGroup(group);
        return membersOf(group);
    }

    public int switched(int source, int group) throws IndexOutOfBoundsException {
        checkRouter(source);
        checkGroup(group);
        return forest.wantingOf(sourceTree(source, group));
    }

    // ---- trees

    public int branches(int router, int group) throws IndexOutOfBoundsException {
        checkRouter(router);
        checkGroup(group);
        return forest.branchesFrom(sharedTree(group), router);
    }

    public int sourceBranches(int router, int source, int group) throws IndexOutOfBoundsException {
        checkRouter(router);
        checkRouter(source);
        checkGroup(group);
        return forest.branchesFrom(sourceTree(source, group), router);
    }

    public int leaving() {
        return forest.leavingBranches();
    }

    // ---- packets

    public int send(int source, int group) throws IndexOutOfBoundsException, IllegalStateException {
        checkRouter(source);
        checkGroup(group);
        if (packets.isFull()) {
            throw new IllegalStateException("200 packets were sent");
        }
        int packet = packets.add(source, group);
        if (isMember(source, group)) {
            packets.receive(packet, source);
        }
        int root = forest.rootOf(sharedTree(group));
        if (routes.distanceOf(source, root) != NONE) {
            getPacket(packet, sharedTree(group), root);
        }
        goOn(packet, sourceTree(source, group), source);
        return packet;
    }

    public int follow() {
        if (queue.isEmpty()) {
            return NOTHING;
        }
        int packet = queue.firstPacket();
        int tree = queue.firstTree();
        int from = queue.firstFrom();
        int to = queue.firstTo();
        queue.removeFirst();
        if (routes.costOf(from, to) == 0) {
            wastedCopies++;
            return LOST;
        }
        if (routes.hopOf(to, forest.rootOf(tree)) != from) {
            wastedCopies++;
            return DROPPED;
        }
        return getPacket(packet, tree, to) ? RECEIVED : PASSED;
    }

    public int followAll() {
        int followed = 0;
        while (followed < MOST_FOLLOWED && !queue.isEmpty()) {
            follow();
            followed++;
        }
        return followed;
    }

    public int queued() {
        return queue.count();
    }

    public int nextTo() {
        return queue.firstTo();
    }

    public int received(int packet) throws IndexOutOfBoundsException {
        checkPacket(packet);
        return packets.receiversOf(packet);
    }

    public int doubles(int packet) throws IndexOutOfBoundsException {
        checkPacket(packet);
        return packets.doublesOf(packet);
    }

    public int wasted() {
        return wastedCopies;
    }

    // ---- time

    public int pass(int seconds) throws IllegalArgumentException {
        if (seconds < 1 || seconds > MOST_SECONDS) {
            throw new IllegalArgumentException("no such number of seconds");
        }
        int gone = 0;
        // Second by second: a branch that goes can make the one above it leave in that very second.
        for (int second = 0; second < seconds; second++) {
            now++;
            gone += forest.removeDue(now);
            if (now % SPAN_SECONDS == 0) {
                counts.forgetAll();
            }
        }
        return gone;
    }

    public int clock() {
        return now;
    }

    // ---- flooding, the second way

    public int floodMembers(int source, int group) throws IndexOutOfBoundsException {
        checkRouter(source);
        checkGroup(group);
        return membersOf(group) & floodedFrom(source);
    }

    public int floodCopies(int source) throws IndexOutOfBoundsException {
        checkRouter(source);
        int flooded = floodedFrom(source);
        int copies = 0;
        for (int router = 0; router < ROUTERS; router++) {
            if (has(flooded, router)) {
                // All but the source spare the link on which the packet came from the next hop.
                copies += routes.linksOf(router) - (router == source ? 0 : 1);
            }
        }
        return copies;
    }

    /**
     * Flooding reaches all that can be reached: the next hop of a router is nearer to the source, so
     * it got the packet over another link than the one between them, and sends it over that one.
     */
    private int floodedFrom(int source) {
        int flooded = 0;
        for (int router = 0; router < ROUTERS; router++) {
            if (routes.distanceOf(source, router) != NONE) {
                flooded |= bit(router);
            }
        }
        return flooded;
    }

    // ---- inside

    private int bestCandidate(int group) {
        int best = NONE;
        int bestRest = NONE;
        for (int candidate = 0; candidate < ROUTERS; candidate++) {
            int rest = (31 * group + 17) * (53 * candidate + 29) % 997;
            if (has(candidates, candidate) && rest > bestRest) {
                best = candidate;
                bestRest = rest;
            }
        }
        return best;
    }

    private int membersOf(int group) {
        return forest.wantingOf(sharedTree(group));
    }

    private boolean isMember(int router, int group) {
        return has(membersOf(group), router);
    }

    /** A router gets a packet through a tree, or as the root of the shared one; true if it receives it. */
    private boolean getPacket(int packet, int tree, int router) {
        int group = packets.groupOf(packet);
        boolean belongs = isMember(router, group);
        boolean hasIt = has(packets.receiversOf(packet), router);
        if (belongs && hasIt) {
            packets.addDouble(packet);
        }
        boolean receives = belongs && !hasIt;
        if (receives) {
            packets.receive(packet, router);
        }
        int source = packets.sourceOf(packet);
        if (receives && isShared(tree) && countSaysSwitch(router, source, group)) {
            forest.want(sourceTree(source, group), router, routes);
        }
        goOn(packet, tree, router);
        return receives;
    }

    /** Counts a packet that a member received through the shared tree; true if it is to switch. */
    private boolean countSaysSwitch(int member, int source, int group) {
        int count = counts.raise(member, source, group);
        int switchedMembers = forest.wantingOf(sourceTree(source, group));
        return count >= limit && member != source && !has(switchedMembers, member);
    }

    private void goOn(int packet, int tree, int router) {
        int targets = forest.branchesFrom(tree, router);
        for (int to = 0; to < ROUTERS; to++) {
            if (has(targets, to) && !queue.put(packet, tree, router, to)) {
                wastedCopies++;
            }
        }
    }

    private void checkPacket(int packet) {
        if (!packets.isPacket(packet)) {
            throw new IndexOutOfBoundsException("no such packet");
        }
    }

    private static void checkRouter(int router) {
        if (!isRouter(router)) {
            throw new IndexOutOfBoundsException("no such router");
        }
    }

    private static void checkGroup(int group) {
        if (!isGroup(group)) {
            throw new IndexOutOfBoundsException("no such group");
        }
    }

    private static boolean isRouter(int router) {
        return router >= 0 && router < ROUTERS;
    }

    private static boolean isGroup(int group) {
        return group >= 0 && group < GROUPS;
    }

    private static boolean isTree(int tree) {
        return tree >= 0 && tree < TREES;
    }

    private static int sharedTree(int group) {
        return isGroup(group) ? group : NONE;
    }

    private static int sourceTree(int source, int group) {
        return isRouter(source) && isGroup(group) ? GROUPS + group * ROUTERS + source : NONE;
    }

    private static boolean isShared(int tree) {
        return tree >= 0 && tree < GROUPS;
    }

    private static int bit(int router) {
        return 1 << router;
    }

    private static boolean has(int set, int router) {
        return isRouter(router) && (set & bit(router)) != 0;
    }

    /** The links, and the distances and next hops that follow from them. */
    private static final class Routes {
        // More than any distance, and small enough that two of it do not overflow.
        private static final int UNREACHED = 1000000;

        private final int[] cost = new int[ROUTERS * ROUTERS];
        private final int[] least = new int[ROUTERS * ROUTERS];
        private final int[] hop = new int[ROUTERS * ROUTERS];

        Routes() {
            findLeast();
            findHops();
        }

        void change(int router, int other, int newCost) {
            if (arePair(router, other)) {
                cost[router * ROUTERS + other] = newCost;
                cost[other * ROUTERS + router] = newCost;
                findLeast();
                findHops();
            }
        }

        int costOf(int router, int other) {
            return arePair(router, other) ? cost[router * ROUTERS + other] : 0;
        }

        int distanceOf(int router, int other) {
            if (!arePair(router, other)) {
                return NONE;
            }
            int sum = least[router * ROUTERS + other];
            return sum < UNREACHED ? sum : NONE;
        }

        int hopOf(int router, int other) {
            return arePair(router, other) ? hop[router * ROUTERS + other] : NONE;
        }

        int linksOf(int router) {
            int links = 0;
            for (int other = 0; other < ROUTERS; other++) {
                if (costOf(router, other) != 0) {
                    links++;
                }
            }
            return links;
        }

        // Asks nobody else, since the calls above it go deep already.
        private static boolean arePair(int router, int other) {
            return router >= 0 && router < ROUTERS && other >= 0 && other < ROUTERS;
        }

        private void findLeast() {
            for (int router = 0; router < ROUTERS; router++) {
                for (int other = 0; other < ROUTERS; other++) {
                    int link = cost[router * ROUTERS + other];
                    least[router * ROUTERS + other] =
                            router == other ? 0 : link == 0 ? UNREACHED : link;
                }
            }
            for (int middle = 0; middle < ROUTERS; middle++) {
                shortenThrough(middle);
            }
        }

        private void shortenThrough(int middle) {
            for (int router = 0; router < ROUTERS; router++) {
                for (int other = 0; other < ROUTERS; other++) {
                    int sum = least[router * ROUTERS + middle] + least[middle * ROUTERS + other];
                    if (sum < least[router * ROUTERS + other]) {
                        least[router * ROUTERS + other] = sum;
                    }
                }
            }
        }

        private void findHops() {
            for (int router = 0; router < ROUTERS; router++) {
                for (int other = 0; other < ROUTERS; other++) {
                    hop[router * ROUTERS + other] = firstHop(router, other);
                }
            }
        }

        private int firstHop(int router, int other) {
            int whole = distanceOf(router, other);
            if (router == other || whole == NONE) {
                return NONE;
            }
            for (int next = 0; next < ROUTERS; next++) {
                int link = costOf(router, next);
                // A neighbour of one that reaches the other reaches it too, so there is no NONE here.
                if (link != 0 && link + distanceOf(next, other) == whole) {
                    return next;
                }
            }
            return NONE;
        }
    }

    /**
     * All trees, by their numbers: the shared ones first, then the source trees group by group. Who
     * wants a shared tree is kept without a root too, since these are the members of the group.
     */
    private static final class Forest {
        private final int[] root = new int[TREES];
        private final int[] wanting = new int[TREES];
        // For each router of each tree: where the branch to it comes from, and when that one goes.
        private final int[] comesFrom = new int[TREES * ROUTERS];
        private final int[] goesAt = new int[TREES * ROUTERS];

        Forest() {
            Arrays.fill(root, NONE);
            Arrays.fill(comesFrom, NONE);
            Arrays.fill(goesAt, NONE);
            for (int group = 0; group < GROUPS; group++) {
                for (int source = 0; source < ROUTERS; source++) {
                    setRoot(sourceTree(source, group), source);
                }
            }
        }

        void setRoot(int tree, int router) {
            if (isTree(tree)) {
                root[tree] = router;
            }
        }

        int rootOf(int tree) {
            return isTree(tree) ? root[tree] : NONE;
        }

        int wantingOf(int tree) {
            return isTree(tree) ? wanting[tree] : 0;
        }

        void want(int tree, int router, Routes routes) {
            if (isTree(tree) && isRouter(router)) {
                wanting[tree] |= bit(router);
                graft(tree, router, routes);
            }
        }

        void unwant(int tree, int router, int second) {
            if (isTree(tree) && isRouter(router)) {
                wanting[tree] &= ~bit(router);
                letLeave(tree, router, second);
            }
        }

        int branchesFrom(int tree, int router) {
            if (!isTree(tree) || !isRouter(router)) {
                return 0;
            }
            int targets = 0;
            for (int to = 0; to < ROUTERS; to++) {
                if (comesFrom[tree * ROUTERS + to] == router) {
                    targets |= bit(to);
                }
            }
            return targets;
        }

        int leavingBranches() {
            int leavers = 0;
            for (int place = 0; place < TREES * ROUTERS; place++) {
                if (goesAt[place] != NONE) {
                    leavers++;
                }
            }
            return leavers;
        }

        void buildAnew(Routes routes) {
            Arrays.fill(comesFrom, NONE);
            Arrays.fill(goesAt, NONE);
            for (int tree = 0; tree < TREES; tree++) {
                for (int router = 0; router < ROUTERS; router++) {
                    if (has(wanting[tree], router)) {
                        graft(tree, router, routes);
                    }
                }
            }
        }

        int removeDue(int second) {
            int gone = 0;
            for (int place = 0; place < TREES * ROUTERS; place++) {
                if (goesAt[place] == second) {
                    remove(place / ROUTERS, place % ROUTERS, second);
                    gone++;
                }
            }
            return gone;
        }

        private void remove(int tree, int router, int second) {
            int parent = parentOf(tree, router);
            comesFrom[tree * ROUTERS + router] = NONE;
            goesAt[tree * ROUTERS + router] = NONE;
            letLeave(tree, parent, second);
        }

        private int parentOf(int tree, int router) {
            return isTree(tree) && isRouter(router) ? comesFrom[tree * ROUTERS + router] : NONE;
        }

        /** A path to the root has fewer steps than there are routers, since each comes nearer to it. */
        private void graft(int tree, int router, Routes routes) {
            int end = rootOf(tree);
            int grafted = router;
            for (int step = 0; step < ROUTERS; step++) {
                if (!isTree(tree) || !isRouter(grafted) || grafted == end) {
                    return;
                }
                if (parentOf(tree, grafted) != NONE) {
                    goesAt[tree * ROUTERS + grafted] = NONE;
                    return;
                }
                int next = routes.hopOf(grafted, end);
                comesFrom[tree * ROUTERS + grafted] = next;
                grafted = next;
            }
        }

        /** A branch that is leaving keeps its second: the router was not needed before either. */
        private void letLeave(int tree, int router, int second) {
            if (parentOf(tree, router) == NONE || isNeeded(tree, router)) {
                return;
            }
            int place = tree * ROUTERS + router;
            if (goesAt[place] == NONE) {
                goesAt[place] = second + LEAVING_SECONDS;
            }
        }

        private boolean isNeeded(int tree, int router) {
            return has(wantingOf(tree), router) || branchesFrom(tree, router) != 0;
        }
    }

    /** How often each member received packets of a source through a shared tree, in this span. */
    private static final class Counts {
        private final int[] count = new int[GROUPS * ROUTERS * ROUTERS];

        int raise(int member, int source, int group) {
            if (!isPlace(member, source, group)) {
                return 0;
            }
            int place = placeOf(member, source, group);
            count[place]++;
            return count[place];
        }

        void forget(int member, int source, int group) {
            if (isPlace(member, source, group)) {
                count[placeOf(member, source, group)] = 0;
            }
        }

        void forgetAll() {
            Arrays.fill(count, 0);
        }

        private static boolean isPlace(int member, int source, int group) {
            return isRouter(member) && isRouter(source) && isGroup(group);
        }

        private static int placeOf(int member, int source, int group) {
            return (group * ROUTERS + source) * ROUTERS + member;
        }
    }

    /** The packets that were sent, by their numbers. */
    private static final class Packets {
        private final int[] source = new int[MOST_PACKETS];
        private final int[] group = new int[MOST_PACKETS];
        private final int[] receivers = new int[MOST_PACKETS];
        private final int[] doubleCount = new int[MOST_PACKETS];
        private int sent;

        boolean isFull() {
            return sent >= MOST_PACKETS;
        }

        boolean isPacket(int packet) {
            return packet >= 0 && packet < sent && packet < MOST_PACKETS;
        }

        int add(int itsSource, int itsGroup) {
            if (isFull()) {
                return NONE;
            }
            int packet = sent;
            source[packet] = itsSource;
            group[packet] = itsGroup;
            sent++;
            return packet;
        }

        void receive(int packet, int router) {
            if (isPacket(packet) && isRouter(router)) {
                receivers[packet] |= bit(router);
            }
        }

        void addDouble(int packet) {
            if (isPacket(packet)) {
                doubleCount[packet]++;
            }
        }

        int sourceOf(int packet) {
            return isPacket(packet) ? source[packet] : NONE;
        }

        int groupOf(int packet) {
            return isPacket(packet) ? group[packet] : NONE;
        }

        int receiversOf(int packet) {
            return isPacket(packet) ? receivers[packet] : 0;
        }

        int doublesOf(int packet) {
            return isPacket(packet) ? doubleCount[packet] : 0;
        }
    }

    /** The copies on their way, in a ring of rows. */
    private static final class CopyQueue {
        private final int[] packet = new int[MOST_COPIES];
        private final int[] tree = new int[MOST_COPIES];
        private final int[] from = new int[MOST_COPIES];
        private final int[] to = new int[MOST_COPIES];
        private int first;
        private int size;

        boolean isEmpty() {
            return size == 0;
        }

        int count() {
            return size;
        }

        /** False if there is no room: the copy is lost then. */
        boolean put(int itsPacket, int itsTree, int itsFrom, int itsTo) {
            if (size >= MOST_COPIES) {
                return false;
            }
            int row = (first + size) % MOST_COPIES;
            packet[row] = itsPacket;
            tree[row] = itsTree;
            from[row] = itsFrom;
            to[row] = itsTo;
            size++;
            return true;
        }

        void removeFirst() {
            if (size > 0) {
                first = (first + 1) % MOST_COPIES;
                size--;
            }
        }

        int firstPacket() {
            return firstIn(packet);
        }

        int firstTree() {
            return firstIn(tree);
        }

        int firstFrom() {
            return firstIn(from);
        }

        int firstTo() {
            return firstIn(to);
        }

        private int firstIn(int[] row) {
            return size > 0 && first >= 0 && first < row.length ? row[first] : NONE;
        }
    }
}
