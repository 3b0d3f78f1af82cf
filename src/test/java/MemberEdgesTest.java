/**
 * Promises 8 to 11: a test for each sentence of the document that names an edge of joining, leaving,
 * grafting and switching. What is refused is in RefusalsTest.
 */
public final class MemberEdgesTest {
    private MemberEdgesTest() {
    }

    public static void main(String[] args) {
        promise8FirstAndTenthMember();
        promise8FirstAndLastRouterAndGroup();
        promise8MemberOfSeveralGroups();
        promise8JoinsAgain();
        promise8NoSharedTree();
        promise8TheRootIsNotGrafted();
        promise8BranchToItIsLeavingNoMore();
        promise8BranchAboveIsLeavingNoMore();
        promise8BranchToItThatStays();
        promise8NoNextHop();
        promise8OntoTheSharedTreeAlone();
        promise9TenthAndLastMember();
        promise9FirstAndLastRouterAndGroup();
        promise9SwitchedToNoSource();
        promise9OtherSwitchesStay();
        promise9CountsAreZero();
        promise9OtherCountsStay();
        promise9StaysWhereItIsNeeded();
        promise9NoBranchToIt();
        promise9TheRootLeaves();
        promise9LeavesBothTrees();
        promise10NoneAndAll();
        promise10FirstAndLastRouterAndGroup();
        promise10LinksAndCandidatesLeaveThemAlone();
        promise11NoneAndAll();
        promise11FirstAndLastSourceAndGroup();
        promise11BecomesTheLimit();
        promise11OrMore();
        promise11SwitchesOnce();
        promise11NotTheSourceItself();
        promise11AsTheRoot();
        promise11NoMemberCountsNothing();
        promise11DoublesAreNotCounted();
        promise11SourceTreeIsNotCounted();
        promise11ForTheSourceAndTheGroup();
        promise11OnlyASpanOrLeavingResetsCounts();
        promise11GraftedOntoTheSourceTree();
        promise11SourceThatCannotBeReached();
        promise11BranchOfSourceTreeIsLeavingNoMore();
        promise11StaysInTheSharedTree();
        Check.end();
    }

    private static void promise8FirstAndTenthMember() {
        Check.sentence(8, "Returns how many members the group has then");
        Multidell net = new Multidell();
        for (int router = 9; router >= 0; router--) {
            Check.same("one more", 10 - router, net.join(router, 1));
        }
        Check.same("another group's first", 1, net.join(9, 2));
    }

    private static void promise8FirstAndLastRouterAndGroup() {
        Check.sentence(8, "router: 0 to 9, group: 0 to 3");
        for (int group = 0; group < 4; group++) {
            Multidell net = new Multidell();
            Check.same("the first", 1, net.join(0, group));
            Check.same("the last", 2, net.join(9, group));
            Check.same("both", Check.set(0, 9), net.members(group));
            for (int other = 0; other < 4; other++) {
                Check.same("in this group alone", other == group ? 2 : 0,
                        Integer.bitCount(net.members(other)));
            }
        }
    }

    private static void promise8MemberOfSeveralGroups() {
        Check.sentence(8, "A router can be a member of groups");
        Multidell net = Nets.made(Nets::chain);
        for (int group = 0; group < 4; group++) {
            Check.same("the first of the group", 1, net.join(3, group));
            Check.same("grafted", Check.set(3), net.branches(2, group));
        }
        Check.same("out of one", 0, net.leave(3, 2));
        Check.same("one branch leaves", 1, net.leaving());
        Check.same("a member of the others", Check.set(3), net.members(1) & net.members(3));
    }

    private static void promise8JoinsAgain() {
        Check.sentence(8, "Throws IllegalStateException if it is a member");
        Multidell net = new Multidell();
        net.join(4, 0);
        Check.throwing("twice", IllegalStateException.class, () -> net.join(4, 0));
        net.leave(4, 0);
        Check.same("it was one, and is none now", 1, net.join(4, 0));
        Check.throwing("twice again", IllegalStateException.class, () -> net.join(4, 0));
    }

    private static void promise8NoSharedTree() {
        Check.sentence(8, "grafted onto the shared tree of the group, if there is one");
        Multidell net = Nets.made(Nets::chain);
        net.setCandidate(0, false);
        Check.same("joins all the same", 1, net.join(3, 0));
        Check.same("no branch", 0, net.branches(0, 0) | net.branches(1, 0) | net.branches(2, 0));
        net.setCandidate(0, true);
        Check.same("grafted when there is one", Check.set(3), net.branches(2, 0));
    }

    private static void promise8TheRootIsNotGrafted() {
        Check.sentence(8, "if it is the root, nothing is done");
        Multidell net = Nets.made(Nets::chain);
        net.join(0, 0);
        for (int router = 0; router < 10; router++) {
            Check.same("no branches", 0, net.branches(router, 0));
        }
        Check.same("it is a member", Check.set(0), net.members(0));
        Check.same("nothing goes", 0, net.pass(100));
    }

    private static void promise8BranchToItIsLeavingNoMore() {
        Check.sentence(8, "if there is a branch to it, that is leaving no more, if it was");
        Multidell net = Nets.made(Nets::chain);
        net.join(3, 0);
        net.leave(3, 0);
        net.pass(2);
        net.join(3, 0);
        Check.same("leaving no more", 0, net.leaving());
        Check.same("nothing goes", 0, net.pass(100));
        Check.same("it is there", Check.set(3), net.branches(2, 0));
    }

    private static void promise8BranchAboveIsLeavingNoMore() {
        Check.sentence(8, "if there is a branch to it, that is leaving no more, if it was");
        Multidell net = Nets.made(Nets::chain);
        net.join(2, 0);
        net.leave(2, 0);
        net.pass(2);
        net.join(3, 0);
        Check.same("2, the next hop of 3, is grafted", 0, net.leaving());
        Check.same("nothing goes", 0, net.pass(100));
        Check.same("the old branch", Check.set(2), net.branches(1, 0));
        Check.same("the new branch", Check.set(3), net.branches(2, 0));
    }

    private static void promise8BranchToItThatStays() {
        Check.sentence(8, "if there is a branch to it");
        Multidell net = Nets.made(Nets::chain);
        net.join(3, 0);
        net.join(2, 0);
        Check.same("one branch to it", Check.set(2), net.branches(1, 0));
        net.leave(3, 0);
        Check.same("the branch behind it leaves alone", 1, net.leaving());
        Check.same("and goes alone", 1, net.pass(100));
        Check.same("2 is a member", Check.set(2), net.branches(1, 0));
    }

    private static void promise8NoNextHop() {
        Check.sentence(8, "otherwise, if there is a next hop from it to the root");
        Multidell net = Nets.made(Nets::chain);
        net.setLink(8, 9, 1);
        net.join(9, 0);
        for (int router = 0; router < 10; router++) {
            Check.same("no branches", 0, net.branches(router, 0));
        }
        net.leave(9, 0);
        Check.same("none to leave", 0, net.leaving());
        net.join(9, 0);
        net.setLink(3, 8, 1);
        Check.same("a way now", Check.set(9), net.branches(8, 0));
        Check.same("up to the root", Check.set(1), net.branches(0, 0));
    }

    private static void promise8OntoTheSharedTreeAlone() {
        Check.sentence(8, "A member that joins is grafted onto the shared tree of the group");
        Multidell net = Nets.made(Nets::chain);
        net.join(3, 1);
        for (int source = 0; source < 10; source++) {
            for (int router = 0; router < 4; router++) {
                Check.same("no source tree", 0, net.sourceBranches(router, source, 1));
            }
        }
        for (int router = 0; router < 4; router++) {
            Check.same("no other group", 0, net.branches(router, 0) | net.branches(router, 2));
        }
    }

    private static void promise9TenthAndLastMember() {
        Check.sentence(9, "Returns how many members the group has then");
        Multidell net = Nets.made(Nets::star);
        for (int router = 0; router < 10; router++) {
            Check.same("one less", 9 - router, net.leave(router, 0));
        }
        Check.same("none left", 0, net.members(0));
    }

    private static void promise9FirstAndLastRouterAndGroup() {
        Check.sentence(9, "router: 0 to 9, group: 0 to 3");
        Multidell net = new Multidell();
        for (int group = 0; group < 4; group++) {
            net.join(0, group);
            net.join(5, group);
            net.join(9, group);
        }
        for (int group = 0; group < 4; group++) {
            Check.same("the last", 2, net.leave(9, group));
            Check.same("the first", 1, net.leave(0, group));
            Check.same("who stays", Check.set(5), net.members(group));
        }
    }

    /** The chain with a limit of 1; 2 and 3 have switched to the sources 0 and 1 of groups 0 and 1. */
    private static Multidell allSwitched() {
        Multidell net = Nets.made(Nets::chain);
        net.setLimit(1);
        for (int group = 0; group < 2; group++) {
            net.join(2, group);
            net.join(3, group);
            Nets.sendFollowed(net, 0, group, 1);
            Nets.sendFollowed(net, 1, group, 1);
            Check.same("both to 0", Check.set(2, 3), net.switched(0, group));
            Check.same("both to 1", Check.set(2, 3), net.switched(1, group));
        }
        return net;
    }

    private static void promise9SwitchedToNoSource() {
        Check.sentence(9, "A member that leaves the group has switched to no source of it any more");
        Multidell net = allSwitched();
        net.leave(3, 0);
        Check.same("not to 0", Check.set(2), net.switched(0, 0));
        Check.same("not to 1", Check.set(2), net.switched(1, 0));
        net.join(3, 0);
        Check.same("not by joining again", Check.set(2), net.switched(0, 0) | net.switched(1, 0));
        net.setLink(8, 9, 1);
        Check.same("not wanted when built anew", 0, net.sourceBranches(2, 1, 0));
    }

    private static void promise9OtherSwitchesStay() {
        Check.sentence(9, "has switched to no source of it any more");
        Multidell net = allSwitched();
        net.leave(3, 0);
        Check.same("of the other group, to 0", Check.set(2, 3), net.switched(0, 1));
        Check.same("of the other group, to 1", Check.set(2, 3), net.switched(1, 1));
        net.pass(100);
        Check.same("its branches stay", Check.set(3), net.sourceBranches(2, 1, 1));
        Check.same("the other member's branches stay", Check.set(2), net.sourceBranches(1, 1, 0));
    }

    private static void promise9CountsAreZero() {
        Check.sentence(9, "and all its counts for the group are 0");
        Multidell net = Nets.made(Nets::chain);
        net.join(2, 0);
        Nets.sendFollowed(net, 0, 0, 2);
        Nets.sendFollowed(net, 9, 0, 1);
        Nets.sendFollowed(net, 3, 0, 2);
        net.leave(2, 0);
        net.join(2, 0);
        Nets.sendFollowed(net, 0, 0, 2);
        Nets.sendFollowed(net, 3, 0, 2);
        Check.same("two of each", 0, net.switched(0, 0) | net.switched(3, 0));
        Nets.sendFollowed(net, 3, 0, 1);
        Check.same("three of 3", Check.set(2), net.switched(3, 0));
        Check.same("not of 0", 0, net.switched(0, 0));
    }

    private static void promise9OtherCountsStay() {
        Check.sentence(9, "all its counts for the group are 0");
        Multidell net = Nets.made(Nets::chain);
        net.join(2, 0);
        net.join(2, 1);
        net.join(3, 0);
        Nets.sendFollowed(net, 1, 0, 2);
        Nets.sendFollowed(net, 1, 1, 2);
        net.leave(2, 0);
        net.join(2, 0);
        Nets.sendFollowed(net, 1, 0, 1);
        Check.same("the other member's stayed", Check.set(3), net.switched(1, 0));
        Nets.sendFollowed(net, 1, 1, 1);
        Check.same("the other group's stayed", Check.set(2), net.switched(1, 1));
    }

    private static void promise9StaysWhereItIsNeeded() {
        Check.sentence(9, "A router is needed in a tree .. if there are branches from it");
        Multidell net = Nets.made(Nets::chain);
        net.join(2, 0);
        net.join(3, 0);
        net.leave(2, 0);
        Check.same("nothing leaves", 0, net.leaving());
        Check.same("nothing goes", 0, net.pass(100));
        Check.same("2 is on the way to 3", Check.set(2), net.branches(1, 0));
    }

    private static void promise9NoBranchToIt() {
        Check.sentence(9, "When a router is no longer needed, and there is a branch to it");
        Multidell net = Nets.made(Nets::chain);
        net.join(8, 0);
        net.leave(8, 0);
        Check.same("no branch, none leaves", 0, net.leaving());
        Check.same("none goes", 0, net.pass(100));
    }

    private static void promise9TheRootLeaves() {
        Check.sentence(9, "When a router is no longer needed, and there is a branch to it");
        Multidell net = Nets.made(Nets::chain);
        net.join(0, 0);
        net.leave(0, 0);
        Check.same("no branch to the root", 0, net.leaving());
        net.join(0, 0);
        net.join(1, 0);
        net.leave(0, 0);
        Check.same("nor if there are others", 0, net.leaving());
        Check.same("they stay", Check.set(1), net.branches(0, 0));
    }

    private static void promise9LeavesBothTrees() {
        Check.sentence(9, "When a router is no longer needed .., this branch is leaving from then on");
        Multidell net = allSwitched();
        net.leave(3, 0);
        Check.same("the shared tree and two of sources", 3, net.leaving());
        Check.same("three go at once", 3, net.pass(3));
        Check.same("2 is a member", 0, net.leaving());
        net.leave(3, 1);
        net.leave(2, 0);
        Check.same("and three each", 6, net.leaving());
    }

    private static void promise10NoneAndAll() {
        Check.sentence(10, "Returns the set of them");
        Multidell net = new Multidell();
        int due = 0;
        for (int router = 0; router < 10; router++) {
            Check.same("so far", due, net.members(0));
            net.join(router, 0);
            due |= 1 << router;
        }
        Check.same("all", 1023, net.members(0));
        for (int router = 0; router < 10; router++) {
            net.leave(router, 0);
        }
        Check.same("none", 0, net.members(0));
    }

    private static void promise10FirstAndLastRouterAndGroup() {
        Check.sentence(10, "A set of routers is a number with the bit r for the router r");
        Multidell net = new Multidell();
        net.join(0, 0);
        net.join(9, 3);
        Check.same("the router 0", 1, net.members(0));
        Check.same("none of group 1", 0, net.members(1));
        Check.same("none of group 2", 0, net.members(2));
        Check.same("the router 9", 512, net.members(3));
    }

    private static void promise10LinksAndCandidatesLeaveThemAlone() {
        Check.sentence(10, "Returns the members of a group");
        Multidell net = allSwitched();
        net.setLink(1, 2, 0);
        net.setCandidate(0, false);
        Check.same("members out of reach", Check.set(2, 3), net.members(0));
        Check.same("who have switched", Check.set(2, 3), net.switched(1, 0));
        net.setLink(1, 2, 7);
        Check.same("grafted again", Check.set(3), net.sourceBranches(2, 1, 0));
    }

    private static void promise11NoneAndAll() {
        Check.sentence(11, "Returns the members of a group that have switched to a source");
        Multidell net = Nets.made(Nets::star);
        net.setLimit(1);
        Check.same("none", 0, net.switched(5, 0));
        net.send(5, 0);
        Check.same("the root", Check.set(0), net.switched(5, 0));
        net.followAll();
        Check.same("all but the source", 1023 - Check.set(5), net.switched(5, 0));
        net.leave(5, 0);
        net.send(5, 0);
        net.followAll();
        Check.same("still all but the source", 1023 - Check.set(5), net.switched(5, 0));
    }

    private static void promise11FirstAndLastSourceAndGroup() {
        Check.sentence(11, "source: 0 to 9, group: 0 to 3");
        for (int group = 0; group < 4; group++) {
            for (int source = 0; source < 10; source += 9) {
                Multidell net = new Multidell();
                net.setLink(0, 9, 1);
                net.setLimit(1);
                net.setCandidate(source, true);
                net.join(9 - source, group);
                Nets.sendFollowed(net, source, group, 1);
                Check.same("the one to the other", Check.set(9 - source), net.switched(source, group));
                Check.same("not the other way", 0, net.switched(9 - source, group));
                Check.same("not of another group", 0, net.switched(source, 3 - group));
            }
        }
    }

    private static void promise11BecomesTheLimit() {
        Check.sentence(11, "When a count becomes the limit");
        for (int limit = 1; limit <= 4; limit++) {
            Multidell net = Nets.made(Nets::chain);
            net.setLimit(limit);
            net.join(2, 0);
            Nets.sendFollowed(net, 1, 0, limit - 1);
            Check.same("one less", 0, net.switched(1, 0));
            Nets.sendFollowed(net, 1, 0, 1);
            Check.same("the limit", Check.set(2), net.switched(1, 0));
        }
    }

    private static void promise11OrMore() {
        Check.sentence(11, "the limit .. or more");
        Multidell net = Nets.made(Nets::chain);
        net.setLimit(100);
        net.join(2, 0);
        Nets.sendFollowed(net, 1, 0, 5);
        net.setLimit(5);
        Check.same("five were received before", 0, net.switched(1, 0));
        Nets.sendFollowed(net, 1, 0, 1);
        Check.same("six are more than five", Check.set(2), net.switched(1, 0));
    }

    private static void promise11SwitchesOnce() {
        Check.sentence(11, "and the member has not switched to that source for the group, it switches");
        Multidell net = Nets.made(Nets::chain);
        net.setLimit(1);
        net.join(2, 0);
        Nets.sendFollowed(net, 1, 0, 6);
        Check.same("switched", Check.set(2), net.switched(1, 0));
        net.leave(2, 0);
        Check.same("once, so not any more", 0, net.switched(1, 0));
        Check.same("two branches are leaving", 2, net.leaving());
    }

    private static void promise11NotTheSourceItself() {
        Check.sentence(11, "unless it is that source itself");
        Multidell net = Nets.made(Nets::chain);
        net.setLimit(1);
        net.send(0, 0);
        net.join(2, 0);
        net.send(2, 0);
        net.leave(2, 0);
        net.send(2, 0);
        net.join(2, 0);
        Check.same("to 1", Multidell.PASSED, net.follow());
        Check.same("to 1", Multidell.PASSED, net.follow());
        Check.same("the source has it", Multidell.PASSED, net.follow());
        Check.same("the source receives its own", Multidell.RECEIVED, net.follow());
        Check.same("it does not switch", 0, net.switched(2, 0));
        Check.same("a tree of one", 0, net.sourceBranches(2, 2, 0) | net.sourceBranches(1, 2, 0));
    }

    private static void promise11AsTheRoot() {
        Check.sentence(11, "A member that receives a packet .. as its root, counts it");
        Multidell net = Nets.made(Nets::chain);
        net.join(0, 0);
        net.send(3, 0);
        net.send(3, 0);
        Check.same("two", 0, net.switched(3, 0));
        net.send(3, 0);
        Check.same("three, at once", Check.set(0), net.switched(3, 0));
        Check.same("the third goes through the source tree", 1, net.queued());
        Check.same("by the router 2", 2, net.nextTo());
    }

    private static void promise11NoMemberCountsNothing() {
        Check.sentence(11, "A member that receives a packet .. counts it");
        // The only member is the source, which never switches: 0 is the root, 1 and 2 are on the way.
        Multidell net = Nets.made(Nets::chain);
        net.join(3, 0);
        Nets.sendFollowed(net, 3, 0, 2);
        net.join(0, 0);
        net.join(2, 0);
        Nets.sendFollowed(net, 3, 0, 2);
        Check.same("two as members", 0, net.switched(3, 0));
        Nets.sendFollowed(net, 3, 0, 1);
        Check.same("three as members", Check.set(0), net.switched(3, 0) & Check.set(0));
    }

    private static void promise11DoublesAreNotCounted() {
        Check.sentence(11, "A member that receives a packet through the shared tree");
        Multidell net = Nets.made(Nets::chain);
        net.setLimit(1);
        net.join(3, 0);
        Nets.sendFollowed(net, 1, 0, 1);
        net.join(2, 0);
        Nets.sendFollowed(net, 1, 0, 1);
        Check.same("2 and 3 got it through both trees", 2, net.doubles(1));
        Check.same("2 received it through the source tree", Check.set(3), net.switched(1, 0));
    }

    private static void promise11SourceTreeIsNotCounted() {
        Check.sentence(11, "through the shared tree, or as its root");
        Multidell net = Nets.made(Nets::chain);
        net.setLimit(1);
        net.join(3, 0);
        Nets.sendFollowed(net, 1, 0, 1);
        net.setCandidate(0, false);
        net.join(2, 0);
        Nets.sendFollowed(net, 1, 0, 3);
        Check.same("2 receives through the source tree", Check.set(2, 3), net.received(3));
        Check.same("2 counts none", Check.set(3), net.switched(1, 0));
    }

    private static void promise11ForTheSourceAndTheGroup() {
        Check.sentence(11, "counts it for the source of the packet and the group");
        Multidell net = Nets.made(Nets::chain);
        for (int group = 0; group < 4; group++) {
            net.join(3, group);
            for (int source = 0; source < 3; source++) {
                Nets.sendFollowed(net, source, group, 2);
            }
        }
        for (int group = 0; group < 4; group++) {
            for (int source = 0; source < 3; source++) {
                Check.same("two of each", 0, net.switched(source, group));
            }
        }
        Nets.sendFollowed(net, 2, 3, 1);
        Check.same("a third of one", Check.set(3), net.switched(2, 3));
        Check.same("not of another source", 0, net.switched(1, 3) | net.switched(0, 3));
        Check.same("not of another group", 0, net.switched(2, 0) | net.switched(2, 2));
    }

    private static void promise11OnlyASpanOrLeavingResetsCounts() {
        Check.sentence(11, "The counts begin with 0 in each span of 10 seconds");
        Multidell net = Nets.made(Nets::chain);
        net.join(2, 0);
        Nets.sendFollowed(net, 1, 0, 2);
        net.setLink(2, 3, 7);
        net.setLink(0, 1, 0);
        net.setLink(0, 1, 2);
        net.setCandidate(9, true);
        net.setCandidate(9, false);
        net.setLimit(100);
        net.setLimit(3);
        net.join(3, 0);
        net.leave(3, 0);
        net.pass(9);
        Nets.sendFollowed(net, 0, 0, 1);
        Check.same("none has three", 0, net.switched(1, 0) | net.switched(0, 0));
        Nets.sendFollowed(net, 1, 0, 1);
        Check.same("the two are counted still", Check.set(2), net.switched(1, 0));
    }

    private static void promise11GraftedOntoTheSourceTree() {
        Check.sentence(11, "one that switches is grafted onto that source tree");
        Multidell net = Nets.made(Nets::chain);
        net.setLimit(1);
        net.join(0, 2);
        net.join(3, 2);
        net.send(1, 2);
        Check.same("the root, a member", Check.set(0), net.sourceBranches(1, 1, 2));
        net.followAll();
        Check.same("both", Check.set(0, 2), net.sourceBranches(1, 1, 2));
        Check.same("up from 3", Check.set(3), net.sourceBranches(2, 1, 2));
        Check.same("no other source's", 0, net.sourceBranches(2, 0, 2) | net.sourceBranches(2, 2, 2));
        Check.same("no other group's", 0, net.sourceBranches(2, 1, 1) | net.sourceBranches(2, 1, 3));
    }

    private static void promise11SourceThatCannotBeReached() {
        Check.sentence(11, "otherwise, if there is a next hop from it to the root");
        Multidell net = Nets.made(Nets::chain);
        net.setLimit(1);
        net.setLink(0, 8, 1);
        net.join(1, 0);
        net.send(8, 0);
        net.setLink(0, 8, 0);
        Check.same("1 receives it", Multidell.RECEIVED, net.follow());
        Check.same("1 switches all the same", Check.set(1), net.switched(8, 0));
        Check.same("no way, no branch", 0, net.sourceBranches(8, 8, 0) | net.sourceBranches(0, 8, 0));
        net.setLink(1, 8, 3);
        Check.same("a way now", Check.set(1), net.sourceBranches(8, 8, 0));
    }

    private static void promise11BranchOfSourceTreeIsLeavingNoMore() {
        Check.sentence(11, "if there is a branch to it, that is leaving no more, if it was");
        // The source is the root of both trees: what goes through the shared one comes first.
        Multidell net = Nets.made(Nets::chain);
        net.setLimit(1);
        net.join(3, 0);
        Nets.sendFollowed(net, 0, 0, 1);
        net.leave(3, 0);
        net.join(3, 0);
        Check.same("that of the source tree is leaving", 1, net.leaving());
        net.pass(2);
        Nets.sendFollowed(net, 0, 0, 1);
        Check.same("switched again", Check.set(3), net.switched(0, 0));
        Check.same("leaving no more", 0, net.leaving());
        Check.same("nothing goes", 0, net.pass(100));
        Check.same("it is there", Check.set(3), net.sourceBranches(2, 0, 0));
    }

    private static void promise11StaysInTheSharedTree() {
        Check.sentence(11, "the members of the group want it");
        Multidell net = Nets.made(Nets::chain);
        net.setLimit(1);
        net.join(3, 0);
        Nets.sendFollowed(net, 1, 0, 1);
        Check.same("nothing leaves", 0, net.leaving());
        Check.same("nothing goes", 0, net.pass(100));
        Check.same("in the shared tree too", Check.set(3), net.branches(2, 0));
    }
}
