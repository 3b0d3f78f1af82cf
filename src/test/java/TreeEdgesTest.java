/**
 * Promises 12 to 14: a test for each sentence of the document that names an edge of trees: no tree, a
 * branch that is leaving, when it goes, and when it does not. What is refused is in RefusalsTest.
 */
public final class TreeEdgesTest {
    private TreeEdgesTest() {
    }

    public static void main(String[] args) {
        promise12NoSharedTree();
        promise12NoBranches();
        promise12FirstAndLastRouterAndGroup();
        promise12AllOtherRouters();
        promise12LeavingOnesToo();
        promise12LongestWay();
        promise12ByTheNextHop();
        promise13NobodyHasSwitched();
        promise13FirstAndLastRouterSourceAndGroup();
        promise13LeavingOnesToo();
        promise13WithoutRendezvousPoint();
        promise13LongestWay();
        promise13TheRootOfBothTrees();
        promise14NoneAndMany();
        promise14NeededBecauseItWantsIt();
        promise14NeededForABranch();
        promise14NeededForALeavingBranch();
        promise14NeededUntilTheLastBranchGoes();
        promise14TwoBranchesInOneSecond();
        promise14NotBeforeThreeSeconds();
        promise14FromThatSecondOn();
        promise14UnlessItIsLeavingNoMore();
        promise14ThreeNewSeconds();
        promise14ABranchThatWentComesAgain();
        promise14TheRootIsNeverLeft();
        promise14WhoDoesNotWantItChangesNothing();
        promise14EachTreeAlone();
        promise14EveryRouterInEveryTree();
        Check.end();
    }

    private static void promise12NoSharedTree() {
        Check.sentence(12, "0 if there is no shared tree");
        Multidell net = Nets.made(Nets::chain);
        net.join(3, 0);
        Check.same("a shared tree", Check.set(3), net.branches(2, 0));
        net.setCandidate(0, false);
        for (int router = 0; router < 10; router++) {
            Check.same("none", 0, net.branches(router, 0));
        }
        net.join(2, 0);
        for (int router = 0; router < 10; router++) {
            Check.same("none by joining", 0, net.branches(router, 0));
        }
    }

    private static void promise12NoBranches() {
        Check.sentence(12, "Returns the set of them");
        Multidell net = Nets.made(Nets::chain);
        net.join(2, 0);
        Check.same("from the last member", 0, net.branches(2, 0));
        Check.same("from who is not in the tree", 0, net.branches(3, 0) | net.branches(9, 0));
        Check.same("in a group without members", 0, net.branches(0, 1) | net.branches(1, 1));
    }

    private static void promise12FirstAndLastRouterAndGroup() {
        Check.sentence(12, "router: 0 to 9, group: 0 to 3");
        for (int group = 0; group < 4; group++) {
            for (int root = 0; root < 10; root += 9) {
                Multidell net = new Multidell();
                net.setLink(0, 9, 20);
                net.setCandidate(root, true);
                net.join(9 - root, group);
                Check.same("to the other", Check.set(9 - root), net.branches(root, group));
                Check.same("not back", 0, net.branches(9 - root, group));
                Check.same("not in another group", 0, net.branches(root, 3 - group));
            }
        }
    }

    private static void promise12AllOtherRouters() {
        Check.sentence(12, "Returns to which routers there are branches from a router");
        Multidell net = Nets.made(Nets::star);
        Check.same("nine", 1022, net.branches(0, 0));
        net.setCandidate(9, true);
        net.setCandidate(0, false);
        Check.same("one", 1, net.branches(9, 0));
        Check.same("eight", 510, net.branches(0, 0));
    }

    private static void promise12LeavingOnesToo() {
        Check.sentence(12, "leaving ones too");
        Multidell net = Nets.made(Nets::fork);
        net.join(2, 0);
        net.join(3, 0);
        net.leave(2, 0);
        Check.same("at once", Check.set(2, 3), net.branches(1, 0));
        net.pass(2);
        Check.same("two seconds later", Check.set(2, 3), net.branches(1, 0));
        net.pass(1);
        Check.same("three seconds later", Check.set(3), net.branches(1, 0));
    }

    private static void promise12LongestWay() {
        Check.sentence(12, "there is a branch from the next hop to it .., and the next hop is grafted");
        Multidell net = Nets.made(Nets::longChain);
        net.join(9, 0);
        for (int router = 0; router < 9; router++) {
            Check.same("to the next", Check.set(router + 1), net.branches(router, 0));
        }
        Check.same("from the last", 0, net.branches(9, 0));
    }

    private static void promise12ByTheNextHop() {
        Check.sentence(12, "a branch goes from a router to one that it has a link with");
        Multidell net = new Multidell();
        net.setLink(0, 4, 2);
        net.setLink(0, 6, 1);
        net.setLink(4, 7, 1);
        net.setLink(6, 7, 2);
        net.setCandidate(0, true);
        net.join(7, 0);
        Check.same("of two ways over the lower next hop", Check.set(7), net.branches(4, 0));
        Check.same("not over the other", 0, net.branches(6, 0));
    }

    private static void promise13NobodyHasSwitched() {
        Check.sentence(13, "the members of the group that have switched to this source want it");
        Multidell net = Nets.made(Nets::star);
        net.send(1, 0);
        net.send(1, 0);
        net.followAll();
        for (int source = 0; source < 10; source++) {
            for (int router = 0; router < 10; router++) {
                Check.same("nobody wants it", 0, net.sourceBranches(router, source, 0));
            }
        }
    }

    private static void promise13FirstAndLastRouterSourceAndGroup() {
        Check.sentence(13, "router: 0 to 9, source: 0 to 9: the root of the tree, group: 0 to 3");
        for (int group = 0; group < 4; group++) {
            for (int source = 0; source < 10; source += 9) {
                int other = 9 - source;
                Multidell net = new Multidell();
                net.setLimit(1);
                net.setLink(0, 9, 1);
                net.setCandidate(source, true);
                net.join(other, group);
                Nets.sendFollowed(net, source, group, 1);
                Check.same("to the other", Check.set(other), net.sourceBranches(source, source, group));
                Check.same("not back", 0, net.sourceBranches(other, source, group));
                Check.same("not of the other source", 0, net.sourceBranches(source, other, group));
                Check.same("not of another group", 0, net.sourceBranches(source, source, 3 - group));
            }
        }
    }

    /** The chain with a limit of 1; 3 has switched to the source 1 of group 0. */
    private static Multidell switchedToOne() {
        Multidell net = Nets.made(Nets::chain);
        net.setLimit(1);
        net.join(3, 0);
        Nets.sendFollowed(net, 1, 0, 1);
        Check.same("switched", Check.set(3), net.switched(1, 0));
        return net;
    }

    private static void promise13LeavingOnesToo() {
        Check.sentence(13, "leaving ones too");
        Multidell net = switchedToOne();
        net.leave(3, 0);
        Check.same("at once", Check.set(3), net.sourceBranches(2, 1, 0));
        net.pass(2);
        Check.same("two seconds later", Check.set(3), net.sourceBranches(2, 1, 0));
        net.pass(1);
        Check.same("three seconds later", 0, net.sourceBranches(2, 1, 0));
        Check.same("the next leaves from then on", Check.set(2), net.sourceBranches(1, 1, 0));
        net.pass(3);
        Check.same("six seconds later", 0, net.sourceBranches(1, 1, 0));
    }

    private static void promise13WithoutRendezvousPoint() {
        Check.sentence(13, "Each group has a source tree for each router, which is its root");
        Multidell net = switchedToOne();
        net.setCandidate(0, false);
        Check.same("no shared tree", 0, net.branches(2, 0));
        Check.same("the source tree from its root", Check.set(2), net.sourceBranches(1, 1, 0));
        Check.same("and on", Check.set(3), net.sourceBranches(2, 1, 0));
    }

    private static void promise13LongestWay() {
        Check.sentence(13, "there is a branch from the next hop to it .., and the next hop is grafted");
        Multidell net = Nets.made(Nets::longChain);
        net.setLimit(1);
        net.join(0, 0);
        Nets.sendFollowed(net, 9, 0, 1);
        for (int router = 1; router < 10; router++) {
            Check.same("to the one before", Check.set(router - 1), net.sourceBranches(router, 9, 0));
        }
        Check.same("from the last", 0, net.sourceBranches(0, 9, 0));
    }

    private static void promise13TheRootOfBothTrees() {
        Check.sentence(13, "Each group has a source tree for each router, which is its root");
        Multidell net = Nets.made(Nets::chain);
        net.setLimit(1);
        net.join(1, 0);
        Nets.sendFollowed(net, 0, 0, 1);
        net.join(3, 0);
        Check.same("shared", Check.set(2), net.branches(1, 0));
        Check.same("of the source", 0, net.sourceBranches(1, 0, 0));
        net.leave(1, 0);
        Check.same("1 is needed in the shared one alone", 1, net.leaving());
        Check.same("it goes from the source's", 1, net.pass(100));
        Check.same("shared still", Check.set(1), net.branches(0, 0));
        Check.same("of the source no more", 0, net.sourceBranches(0, 0, 0));
    }

    private static void promise14NoneAndMany() {
        Check.sentence(14, "Returns how many branches are leaving, in all trees");
        Multidell net = new Multidell();
        net.setCandidate(0, true);
        net.setLimit(1);
        for (int router = 1; router < 10; router++) {
            net.setLink(0, router, 1);
        }
        for (int group = 0; group < 4; group++) {
            for (int router = 1; router < 10; router++) {
                net.join(router, group);
            }
            net.send(0, group);
            net.followAll();
        }
        Check.same("none", 0, net.leaving());
        for (int group = 0; group < 4; group++) {
            for (int router = 1; router < 10; router++) {
                net.leave(router, group);
                Check.same("two more", 2 * (9 * group + router), net.leaving());
            }
        }
        Check.same("two", 0, net.pass(2));
        Check.same("all of them go", 72, net.pass(1));
        Check.same("none left", 0, net.leaving());
    }

    private static void promise14NeededBecauseItWantsIt() {
        Check.sentence(14, "A router is needed in a tree if it wants it");
        Multidell net = Nets.made(Nets::chain);
        net.join(3, 0);
        net.join(2, 0);
        net.leave(3, 0);
        Check.same("the branch to 3", 1, net.leaving());
        Check.same("goes", 1, net.pass(3));
        Check.same("2 wants it", 0, net.leaving());
        Check.same("it stays", 0, net.pass(100));
    }

    private static void promise14NeededForABranch() {
        Check.sentence(14, "or if there are branches from it");
        Multidell net = Nets.made(Nets::fork);
        net.join(1, 0);
        net.join(2, 0);
        net.leave(1, 0);
        Check.same("1 is on the way to 2", 0, net.leaving());
        Check.same("it stays", 0, net.pass(100));
        Check.same("from the root", Check.set(1), net.branches(0, 0));
    }

    private static void promise14NeededForALeavingBranch() {
        Check.sentence(14, "branches from it, leaving ones too");
        Multidell net = Nets.made(Nets::chain);
        net.join(2, 0);
        net.leave(2, 0);
        net.join(1, 0);
        net.leave(1, 0);
        Check.same("1 is needed as long as 2's branch is there", 1, net.leaving());
        net.pass(2);
        Check.same("in the last second too", 1, net.leaving());
        Check.same("the branch to 2 goes", 1, net.pass(1));
        Check.same("the branch to 1 is leaving now", 1, net.leaving());
        Check.same("it is there", Check.set(1), net.branches(0, 0));
        Check.same("it goes", 1, net.pass(3));
    }

    private static void promise14NeededUntilTheLastBranchGoes() {
        Check.sentence(14, "When a router is no longer needed .., this branch is leaving from then on");
        Multidell net = Nets.made(Nets::fork);
        net.join(2, 0);
        net.join(3, 0);
        net.leave(2, 0);
        net.pass(1);
        net.leave(3, 0);
        Check.same("the branch to 2 goes", 1, net.pass(2));
        Check.same("1 is needed for 3", 1, net.leaving());
        Check.same("the branch to 3 goes", 1, net.pass(1));
        Check.same("now 1 is needed no longer", 1, net.leaving());
        Check.same("not yet", 0, net.pass(2));
        Check.same("three seconds after the last", 1, net.pass(1));
    }

    private static void promise14TwoBranchesInOneSecond() {
        Check.sentence(14, "When a router is no longer needed .., this branch is leaving from then on");
        Multidell net = Nets.made(Nets::fork);
        net.join(2, 0);
        net.join(3, 0);
        net.leave(3, 0);
        net.leave(2, 0);
        Check.same("both", 2, net.leaving());
        Check.same("both go", 2, net.pass(3));
        Check.same("one is leaving", 1, net.leaving());
        Check.same("not yet", 0, net.pass(2));
        Check.same("it goes", 1, net.pass(1));
    }

    private static void promise14NotBeforeThreeSeconds() {
        Check.sentence(14, "it goes 3 seconds later");
        Multidell net = Nets.made(Nets::chain);
        net.join(1, 0);
        net.leave(1, 0);
        Check.same("one second", 0, net.pass(1));
        Check.same("two seconds", 0, net.pass(1));
        Check.same("leaving still", 1, net.leaving());
        Check.same("three seconds", 1, net.pass(1));
        Check.same("gone", 0, net.leaving() + net.branches(0, 0));
    }

    private static void promise14FromThatSecondOn() {
        Check.sentence(14, "this branch is leaving from then on; it goes 3 seconds later");
        for (int second = 1; second <= 12; second++) {
            Multidell net = Nets.made(Nets::chain);
            net.join(1, 0);
            net.pass(second);
            net.leave(1, 0);
            Check.same("two seconds later", 0, net.pass(2));
            Check.same("three seconds later", 1, net.pass(1));
        }
    }

    private static void promise14UnlessItIsLeavingNoMore() {
        Check.sentence(14, "unless it is leaving no more by then");
        Multidell net = Nets.made(Nets::chain);
        net.join(1, 0);
        net.leave(1, 0);
        net.pass(2);
        net.join(1, 0);
        Check.same("the third second", 0, net.pass(1));
        Check.same("it is there", Check.set(1), net.branches(0, 0));
        Check.same("nor later", 0, net.pass(100));
        Check.same("it is there", Check.set(1), net.branches(0, 0));
    }

    private static void promise14ThreeNewSeconds() {
        Check.sentence(14, "this branch is leaving from then on; it goes 3 seconds later");
        Multidell net = Nets.made(Nets::chain);
        net.join(1, 0);
        net.leave(1, 0);
        net.pass(2);
        net.join(1, 0);
        net.leave(1, 0);
        Check.same("the old third second", 0, net.pass(1));
        Check.same("the new second one", 0, net.pass(1));
        Check.same("the new third one", 1, net.pass(1));
    }

    private static void promise14ABranchThatWentComesAgain() {
        Check.sentence(14, "it goes 3 seconds later");
        Multidell net = Nets.made(Nets::chain);
        net.join(1, 0);
        net.leave(1, 0);
        net.pass(3);
        net.join(1, 0);
        Check.same("a new branch", Check.set(1), net.branches(0, 0));
        Check.same("that is not leaving", 0, net.leaving());
        Check.same("it stays", 0, net.pass(100));
        net.leave(1, 0);
        Check.same("leaving again", 1, net.leaving());
        Check.same("goes again", 1, net.pass(3));
    }

    private static void promise14TheRootIsNeverLeft() {
        Check.sentence(14, "and there is a branch to it, this branch is leaving");
        Multidell net = Nets.made(Nets::chain);
        net.join(1, 0);
        net.leave(1, 0);
        Check.same("the last branch goes", 1, net.pass(3));
        Check.same("none above the root", 0, net.leaving());
        Check.same("none goes", 0, net.pass(100));
    }

    private static void promise14WhoDoesNotWantItChangesNothing() {
        Check.sentence(14, "When a router is no longer needed");
        // 2 is on the way to 3 in the tree of 1, and leaves the group without having switched.
        Multidell net = switchedToOne();
        net.leave(3, 0);
        net.pass(1);
        net.join(2, 0);
        net.leave(2, 0);
        Check.same("the branches to 3 keep their second", 0, net.pass(1));
        Check.same("the branches to 3 go", 2, net.pass(1));
        Check.same("the branches to 2 leave from then on", 2, net.leaving());
        net.pass(1);
        net.join(2, 0);
        net.leave(2, 0);
        Check.same("in its second goes only what nobody wanted again", 1, net.pass(2));
        Check.same("and the other a second later", 1, net.pass(1));
    }

    private static void promise14EveryRouterInEveryTree() {
        Check.sentence(14, "how many branches are leaving, in all trees");
        for (int group = 0; group < 4; group++) {
            for (int root = 0; root < 10; root++) {
                int member = (root + 9) % 10;
                Multidell net = Nets.oneBranchInBothTrees(root, member, group);
                Check.same("shared", Check.set(member), net.branches(root, group));
                Check.same("of the source", Check.set(member), net.sourceBranches(root, root, group));
                net.leave(member, group);
                Check.same("both leave", 2, net.leaving());
                Check.same("neither goes", 0, net.pass(2));
                Check.same("both go", 2, net.pass(1));
            }
        }
    }

    private static void promise14EachTreeAlone() {
        Check.sentence(14, "in all trees");
        Multidell net = Nets.made(Nets::chain);
        for (int group = 0; group < 4; group++) {
            net.join(1, group);
        }
        for (int group = 0; group < 4; group++) {
            net.leave(1, group);
            Check.same("one more", group + 1, net.leaving());
        }
        net.pass(1);
        net.join(1, 2);
        Check.same("one less", 3, net.leaving());
        Check.same("three go", 3, net.pass(2));
        Check.same("one stays", Check.set(1), net.branches(0, 2));
        Check.same("gone", 0, net.branches(0, 0) | net.branches(0, 1) | net.branches(0, 3));
    }
}
