/** Promises 12 to 14: branches, sourceBranches, leaving. */
public final class TreesTest {
    private TreesTest() {
    }

    public static void main(String[] args) {
        promise12Branches();
        promise12BranchesLeavingToo();
        promise12BranchesWithoutTree();
        promise12BranchesOfALongChain();
        promise13SourceBranches();
        promise13SourceBranchesLeavingToo();
        promise14Leaving();
        promise14LeavingOnlyWhenNotNeeded();
        promise14LeavingKeepsItsSecond();
        promise14LeavingEdges();
        Check.end();
    }

    private static void promise12Branches() {
        Multidell net = Nets.made(Nets::star);
        Check.same("to all others", 1022, net.branches(0, 0));
        Check.same("none beyond", 0, net.branches(5, 0));
        Check.same("another group", 0, net.branches(0, 1));
        net.setCandidate(5, true);
        net.setCandidate(0, false);
        Check.same("from the new root", Check.set(0), net.branches(5, 0));
        Check.same("from the midst, not to the root", 1022 - Check.set(5), net.branches(0, 0));
    }

    private static void promise12BranchesLeavingToo() {
        Multidell net = Nets.made(Nets::chain);
        net.join(1, 0);
        net.leave(1, 0);
        Check.same("leaving too", Check.set(1), net.branches(0, 0));
        net.pass(2);
        Check.same("leaving too", Check.set(1), net.branches(0, 0));
        net.pass(1);
        Check.same("gone", 0, net.branches(0, 0));
    }

    private static void promise12BranchesWithoutTree() {
        Multidell net = Nets.made(Nets::chain);
        net.setCandidate(0, false);
        net.join(3, 0);
        for (int router = 0; router < 10; router++) {
            Check.same("no shared tree", 0, net.branches(router, 0));
        }
        net.leave(3, 0);
        Check.same("nothing leaves", 0, net.leaving());
        net.join(2, 0);
        net.setCandidate(0, true);
        Check.same("the members want it when it comes", Check.set(2), net.branches(1, 0));
        Check.same("3 does not", 0, net.branches(2, 0));
    }

    private static void promise12BranchesOfALongChain() {
        Multidell net = new Multidell();
        net.setCandidate(9, true);
        net.join(0, 0);
        for (int router = 0; router < 9; router++) {
            net.setLink(router, router + 1, 20);
        }
        for (int router = 1; router < 10; router++) {
            Check.same("each to the one before it", Check.set(router - 1), net.branches(router, 0));
        }
        net.leave(0, 0);
        Check.same("one after the other", 9, net.pass(27));
        net.join(0, 0);
        Check.same("grafted up to the root", Check.set(8), net.branches(9, 0));
    }

    private static void promise13SourceBranches() {
        Multidell net = Nets.made(Nets::chain);
        net.setLimit(1);
        net.join(3, 2);
        net.send(1, 2);
        net.followAll();
        Check.same("from 1", Check.set(2), net.sourceBranches(1, 1, 2));
        Check.same("from 2", Check.set(3), net.sourceBranches(2, 1, 2));
        Check.same("not from 0", 0, net.sourceBranches(0, 1, 2));
        Check.same("another source", 0, net.sourceBranches(2, 0, 2));
        Check.same("another group", 0, net.sourceBranches(2, 1, 0));
        net.setCandidate(0, false);
        Check.same("it needs no rendezvous point", Check.set(2), net.sourceBranches(1, 1, 2));
        net.setLink(1, 3, 1);
        Check.same("it is built anew", Check.set(3), net.sourceBranches(1, 1, 2));
        Check.same("it is built anew", 0, net.sourceBranches(2, 1, 2));
    }

    private static void promise13SourceBranchesLeavingToo() {
        Multidell net = Nets.made(Nets::chain);
        net.setLimit(1);
        net.join(3, 2);
        net.send(1, 2);
        net.followAll();
        net.leave(3, 2);
        Check.same("leaving too", Check.set(3), net.sourceBranches(2, 1, 2));
        Check.same("in both trees", 2, net.leaving());
        net.pass(3);
        Check.same("gone", 0, net.sourceBranches(2, 1, 2));
        Check.same("the next is still there", Check.set(2), net.sourceBranches(1, 1, 2));
        net.pass(3);
        Check.same("gone too", 0, net.sourceBranches(1, 1, 2));
    }

    private static void promise14Leaving() {
        Multidell net = Nets.made(Nets::star);
        for (int router = 1; router < 10; router++) {
            net.join(router, 1);
        }
        Check.same("nothing leaves", 0, net.leaving());
        for (int router = 1; router < 10; router++) {
            net.leave(router, 0);
            Check.same("one more", router, net.leaving());
        }
        net.leave(4, 1);
        Check.same("of all trees", 10, net.leaving());
        net.join(4, 0);
        Check.same("leaving no more", 9, net.leaving());
        net.leave(0, 0);
        Check.same("the root has no branch to it", 9, net.leaving());
        Check.same("they go", 9, net.pass(3));
        Check.same("none left", 0, net.leaving());
        Check.same("4 stayed", Check.set(4), net.branches(0, 0));
    }

    private static void promise14LeavingOnlyWhenNotNeeded() {
        Multidell net = Nets.made(Nets::chain);
        net.join(2, 0);
        net.join(3, 0);
        net.leave(2, 0);
        Check.same("2 is needed for 3", 0, net.leaving());
        net.leave(3, 0);
        Check.same("only the last one", 1, net.leaving());
        net.join(2, 0);
        net.pass(3);
        Check.same("2 is wanted", 0, net.leaving());
        Check.same("3 went", 0, net.branches(2, 0));
        Check.same("2 stayed", Check.set(2), net.branches(1, 0));
        net.join(3, 0);
        net.leave(2, 0);
        net.leave(3, 0);
        net.pass(2);
        Check.same("2 is needed as long as 3 leaves", 1, net.leaving());
        net.pass(1);
        Check.same("now 2 leaves", 1, net.leaving());
        Check.same("the branch to 3 is gone", 0, net.branches(2, 0));
    }

    private static void promise14LeavingKeepsItsSecond() {
        Multidell net = Nets.made(Nets::chain);
        net.join(1, 0);
        net.leave(1, 0);
        net.pass(2);
        net.join(1, 0);
        net.leave(1, 0);
        Check.same("three new seconds, the third is not over", 0, net.pass(2));
        Check.same("now it goes", 1, net.pass(1));
        net.join(1, 0);
        net.leave(1, 0);
        net.pass(2);
        net.join(3, 0);
        Check.same("a graft from behind keeps it", 0, net.leaving());
        Check.same("it is not gone", 0, net.pass(10));
        net.setLimit(1);
        net.send(2, 0);
        net.followAll();
        net.leave(3, 0);
        Check.same("of the shared and the source tree", 2, net.leaving());
        net.pass(1);
        net.join(1, 0);
        net.leave(1, 0);
        Check.same("a member that is needed for others leaves", 2, net.leaving());
        Check.same("the first second counts", 2, net.pass(2));
    }

    private static void promise14LeavingEdges() {
        for (int group = 0; group < 4; group++) {
            for (int router = 0; router < 10; router += 9) {
                int root = 9 - router;
                Multidell net = new Multidell();
                net.setLimit(1);
                net.setLink(0, 9, 1);
                net.setCandidate(root, true);
                net.join(router, group);
                net.send(root, group);
                net.followAll();
                Check.same("in the source tree", Check.set(router), net.sourceBranches(root, root, group));
                net.leave(router, group);
                Check.same("the first and the last router", 2, net.leaving());
                Check.same("both go", 2, net.pass(3));
            }
        }
    }
}
