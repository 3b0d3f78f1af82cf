/**
 * Promises 1 to 7: a test for each sentence of the document that names an edge of a new object, links,
 * candidates, the limit, routes and rendezvous points. What is refused is in RefusalsTest.
 */
public final class LinkEdgesTest {
    private LinkEdgesTest() {
    }

    public static void main(String[] args) {
        promise1NoLinks();
        promise1NoCandidates();
        promise1NoMembers();
        promise1NoPackets();
        promise1NothingToFollow();
        promise1NoBranches();
        promise1ClockFromZero();
        promise1LimitOfThree();
        promise1EachObjectAlone();
        promise1TheLastCall();
        promise2LeastAndGreatestCost();
        promise2CostZeroTakesTheLinkAway();
        promise2CostZeroWithoutALink();
        promise2SameBothWays();
        promise2FirstAndLastRouter();
        promise2CostBefore();
        promise2SameCostBuildsNothing();
        promise2NewLinkBuildsAnew();
        promise2ChangedCostBuildsAnew();
        promise2LinkTakenAwayBuildsAnew();
        promise2EveryTreeIsBuiltAnew();
        promise2EveryTreeIsGraftedAnew();
        promise2OnlyWhoWantsItIsGrafted();
        promise3FirstAndLastRouter();
        promise3NothingChanges();
        promise3BecomesOneBuildsAnew();
        promise3IsNoLongerOneBuildsAnew();
        promise4LeastLimit();
        promise4GreatestLimit();
        promise4LimitBefore();
        promise4LowerLimitFromNowOn();
        promise4HigherLimitFromNowOn();
        promise5OneAndTheSame();
        promise5CannotBeReached();
        promise5LeastAndGreatestDistance();
        promise5LeastSumNotFewestLinks();
        promise6LowestNumberOfSeveral();
        promise6LowestNumberOrTheOtherItself();
        promise6CannotBeReached();
        promise6OneAndTheSame();
        promise6LinkThatIsTooDear();
        promise7NoneWithoutCandidates();
        promise7GreatestRemainderOfAll();
        promise7FirstAndLastGroup();
        promise7CandidateWithoutLinks();
        Check.end();
    }

    private static void promise1NoLinks() {
        Check.sentence(1, "at first no two have one");
        Multidell net = new Multidell();
        for (int router = 0; router < 10; router++) {
            for (int other = 0; other < 10; other++) {
                if (router != other) {
                    Check.same("the cost before", 0, net.setLink(router, other, 0));
                    Check.same("the distance", Multidell.NONE, net.distance(router, other));
                }
            }
        }
    }

    private static void promise1NoCandidates() {
        Check.sentence(1, "Some routers are candidates, none at first");
        Multidell net = new Multidell();
        for (int router = 0; router < 10; router++) {
            Check.same("a candidate to be no longer", false, net.setCandidate(router, false));
        }
        for (int group = 0; group < 4; group++) {
            Check.same("rendezvous point", Multidell.NONE, net.rendezvous(group));
        }
    }

    private static void promise1NoMembers() {
        Check.sentence(1, "Creates a network without links, candidates and members");
        Multidell net = new Multidell();
        for (int group = 0; group < 4; group++) {
            int itsGroup = group;
            Check.same("members", 0, net.members(group));
            for (int router = 0; router < 10; router++) {
                int leaver = router;
                Check.same("switched", 0, net.switched(router, group));
                Check.throwing("leave", IllegalStateException.class, () -> net.leave(leaver, itsGroup));
            }
            Check.same("the first that joins", 1, net.join(9, group));
        }
    }

    private static void promise1NoPackets() {
        Check.sentence(1, "Packets are numbered from 0 on");
        Multidell net = new Multidell();
        Check.throwing("no packet", IndexOutOfBoundsException.class, () -> net.received(0));
        Check.same("the first number", 0, net.send(9, 3));
        Check.same("it is there", 0, net.received(0));
        Check.same("the second number", 1, net.send(9, 3));
    }

    private static void promise1NothingToFollow() {
        Check.sentence(1, "NOTHING if there was none in the queue");
        Multidell net = new Multidell();
        Check.same("queued", 0, net.queued());
        Check.same("nextTo", Multidell.NONE, net.nextTo());
        Check.same("follow", Multidell.NOTHING, net.follow());
        Check.same("followAll", 0, net.followAll());
        Check.same("wasted", 0, net.wasted());
    }

    private static void promise1NoBranches() {
        Check.sentence(1, "how many branches are leaving, in all trees");
        Multidell net = new Multidell();
        Check.same("leaving", 0, net.leaving());
        for (int group = 0; group < 4; group++) {
            for (int router = 0; router < 10; router++) {
                Check.same("in a shared tree", 0, net.branches(router, group));
                Check.same("in a source tree", 0, net.sourceBranches(router, 9 - router, group));
            }
        }
        Check.same("none go", 0, net.pass(100));
    }

    private static void promise1ClockFromZero() {
        Check.sentence(1, "The clock counts seconds, from 0 on");
        Check.same("clock", 0, new Multidell().clock());
    }

    private static void promise1LimitOfThree() {
        Check.sentence(1, "the limit, which is 3 at first");
        Check.same("the limit before the first one", 3, new Multidell().setLimit(100));
        Multidell net = Nets.made(Nets::chain);
        net.join(2, 0);
        Nets.sendFollowed(net, 1, 0, 2);
        Check.same("two", 0, net.switched(1, 0));
        Nets.sendFollowed(net, 1, 0, 1);
        Check.same("three", Check.set(2), net.switched(1, 0));
    }

    private static void promise1EachObjectAlone() {
        Check.sentence(1, "Creates a network without links, candidates and members");
        Multidell other = Nets.made(Nets::lively);
        Multidell net = new Multidell();
        Check.same("no link", Multidell.NONE, net.distance(0, 1));
        Check.same("no candidate", Multidell.NONE, net.rendezvous(0));
        Check.same("no members", 0, net.members(0));
        Check.same("no copies", 0, net.queued());
        Check.same("no seconds", 0, net.clock());
        net.setLink(0, 1, 20);
        Check.same("the other one keeps its link", 1, other.distance(0, 1));
    }

    private static void promise1TheLastCall() {
        Check.sentence(1, "An object is used for at most 512 calls after it has been made");
        Multidell net = Nets.made(Nets::chain);
        net.join(3, 0);
        Nets.sendFollowed(net, 0, 0, 200);
        for (int call = 4 + 1 + 2 * 200; call < 510; call++) {
            net.pass(100);
        }
        net.leave(3, 0);
        Check.same("the 512th call, three of both trees", 6, net.pass(100));
        Multidell lasting = new Multidell();
        for (int call = 0; call < 511; call++) {
            lasting.pass(100);
        }
        Check.same("the clock as the 512th call", 51100, lasting.clock());
    }

    private static void promise2LeastAndGreatestCost() {
        Check.sentence(2, "cost: 1 to 20");
        Multidell net = new Multidell();
        for (int cost = 1; cost <= 20; cost++) {
            Check.same("the cost before", cost - 1, net.setLink(4, 5, cost));
            Check.same("the distance", cost, net.distance(4, 5));
        }
    }

    private static void promise2CostZeroTakesTheLinkAway() {
        Check.sentence(2, "or 0 for no link");
        Multidell net = new Multidell();
        net.setLink(4, 5, 20);
        Check.same("the cost before", 20, net.setLink(4, 5, 0));
        Check.same("no distance", Multidell.NONE, net.distance(4, 5));
        Check.same("no next hop", Multidell.NONE, net.nextHop(5, 4));
        Check.same("no copies", 0, net.floodCopies(4));
        Check.same("none before", 0, net.setLink(4, 5, 1));
    }

    private static void promise2CostZeroWithoutALink() {
        Check.sentence(2, "0 if there was no link");
        Multidell net = new Multidell();
        Check.same("none to take away", 0, net.setLink(4, 5, 0));
        Check.same("still none", 0, net.setLink(5, 4, 0));
        Check.same("no distance", Multidell.NONE, net.distance(4, 5));
    }

    private static void promise2SameBothWays() {
        Check.sentence(2, "with a cost from 1 to 20, the same both ways");
        Multidell net = new Multidell();
        net.setLink(2, 7, 9);
        Check.same("one way", 9, net.distance(2, 7));
        Check.same("the other way", 9, net.distance(7, 2));
        Check.same("set the other way", 9, net.setLink(7, 2, 4));
        Check.same("before, one way", 4, net.setLink(2, 7, 0));
        Check.same("before, the other way", 0, net.setLink(7, 2, 0));
    }

    private static void promise2FirstAndLastRouter() {
        Check.sentence(2, "router: 0 to 9, other: 0 to 9");
        Multidell net = new Multidell();
        Check.same("the first and the last", 0, net.setLink(0, 9, 3));
        Check.same("the last and the first", 3, net.setLink(9, 0, 5));
        Check.same("the last two", 0, net.setLink(9, 8, 7));
        Check.same("the first two", 0, net.setLink(0, 1, 2));
        Check.same("through all four", 14, net.distance(1, 8));
    }

    private static void promise2CostBefore() {
        Check.sentence(2, "Returns the cost before");
        Multidell net = new Multidell();
        Check.same("first", 0, net.setLink(3, 6, 20));
        Check.same("second", 20, net.setLink(3, 6, 1));
        Check.same("third, the same", 1, net.setLink(3, 6, 1));
        Check.same("another link", 0, net.setLink(3, 7, 1));
        Check.same("away", 1, net.setLink(3, 6, 0));
    }

    /** The chain and a link elsewhere, with the branch to 3 leaving: it goes in a second. */
    private static Multidell leavingInASecond() {
        Multidell net = Nets.made(Nets::chain);
        net.setLink(7, 8, 5);
        net.setCandidate(2, true);
        leaveInASecond(net);
        return net;
    }

    private static void leaveInASecond(Multidell net) {
        net.join(3, 0);
        net.leave(3, 0);
        net.pass(2);
        Check.same("a branch is leaving", 1, net.leaving());
    }

    // With the candidates 0 and 2, the router 5 is the rendezvous point of no group, be it one or not.
    private static void sameRendezvousPoints(Multidell net) {
        Check.same("of group 0", 0, net.rendezvous(0));
        for (int group = 1; group < 4; group++) {
            Check.same("of the other groups", 2, net.rendezvous(group));
        }
    }

    private static void stillLeaving(Multidell net) {
        Check.same("leaving still", 1, net.leaving());
        Check.same("still there", Check.set(3), net.branches(2, 0));
        Check.same("it goes in its second", 1, net.pass(1));
        Check.same("and then the next", 1, net.pass(3));
    }

    private static void builtAnew(Multidell net) {
        Check.same("none is leaving", 0, net.leaving());
        for (int router = 0; router < 10; router++) {
            Check.same("no branch", 0, net.branches(router, 0));
        }
        Check.same("none goes later", 0, net.pass(100));
    }

    private static void promise2SameCostBuildsNothing() {
        Check.sentence(2, "if it is the same, no tree is built anew");
        Multidell net = leavingInASecond();
        Check.same("the same cost", 1, net.setLink(1, 2, 1));
        stillLeaving(net);
        Multidell linkless = leavingInASecond();
        Check.same("the same: none", 0, linkless.setLink(5, 6, 0));
        stillLeaving(linkless);
    }

    private static void promise2NewLinkBuildsAnew() {
        Check.sentence(2, "When a link .. is changed .., all trees are built anew: all branches go");
        Multidell net = leavingInASecond();
        Check.same("a link more, elsewhere", 0, net.setLink(5, 6, 1));
        builtAnew(net);
    }

    private static void promise2ChangedCostBuildsAnew() {
        Check.sentence(2, "When .. its cost is changed .., all trees are built anew: all branches go");
        Multidell net = leavingInASecond();
        Check.same("another cost, elsewhere", 5, net.setLink(8, 7, 6));
        builtAnew(net);
    }

    private static void promise2LinkTakenAwayBuildsAnew() {
        Check.sentence(2, "When a link .. is changed .., all trees are built anew: all branches go");
        Multidell net = leavingInASecond();
        Check.same("a link less, elsewhere", 5, net.setLink(7, 8, 0));
        builtAnew(net);
    }

    private static void promise2EveryTreeIsBuiltAnew() {
        Check.sentence(2, "all trees are built anew: all branches go");
        Multidell net = Nets.made(Nets::chain);
        net.setLimit(1);
        for (int group = 0; group < 4; group++) {
            net.join(3, group);
            net.send(1, group);
        }
        net.followAll();
        for (int group = 0; group < 4; group++) {
            Check.same("a branch to 3", Check.set(3), net.sourceBranches(2, 1, group));
            net.leave(3, group);
        }
        Check.same("leaving in all trees", 8, net.leaving());
        net.setLink(7, 8, 1);
        Check.same("in none any more", 0, net.leaving());
        for (int group = 0; group < 4; group++) {
            Check.same("shared", 0, net.branches(2, group) | net.branches(0, group));
            Check.same("of the source", 0,
                    net.sourceBranches(2, 1, group) | net.sourceBranches(1, 1, group));
        }
    }

    private static void promise2EveryTreeIsGraftedAnew() {
        Check.sentence(2, "onto each tree all routers that want it are grafted");
        for (int group = 0; group < 4; group++) {
            for (int root = 0; root < 10; root++) {
                int member = (root + 1) % 10;
                Multidell net = Nets.oneBranchInBothTrees(root, member, group);
                net.setLink(root, member, 2);
                Check.same("shared", Check.set(member), net.branches(root, group));
                Check.same("of the source", Check.set(member), net.sourceBranches(root, root, group));
                net.leave(member, group);
                Check.same("both leave", 2, net.leaving());
                net.setLink(root, member, 3);
                Check.same("nobody wants them", 0,
                        net.branches(root, group) | net.sourceBranches(root, root, group));
                Check.same("both went at once", 0, net.pass(100));
            }
        }
    }

    private static void promise2OnlyWhoWantsItIsGrafted() {
        Check.sentence(2, "onto each tree all routers that want it are grafted");
        Multidell net = Nets.made(Nets::chain);
        net.setLimit(1);
        net.join(2, 3);
        net.send(3, 3);
        net.followAll();
        net.join(3, 3);
        net.setLink(0, 3, 1);
        Check.same("the members, from the root", Check.set(1, 3), net.branches(0, 3));
        Check.same("the members, from 1", Check.set(2), net.branches(1, 3));
        Check.same("2 from the source", Check.set(2), net.sourceBranches(3, 3, 3));
        Check.same("nobody beyond 2", 0, net.sourceBranches(2, 3, 3));
        Check.same("another group", 0, net.branches(0, 2));
    }

    private static void promise3FirstAndLastRouter() {
        Check.sentence(3, "router: 0 to 9");
        Multidell net = new Multidell();
        for (int router = 0; router < 10; router++) {
            Check.same("becomes one", true, net.setCandidate(router, true));
            Check.same("the only one", router, net.rendezvous(2));
            Check.same("is no longer one", true, net.setCandidate(router, false));
        }
    }

    private static void promise3NothingChanges() {
        Check.sentence(3, "Returns true if that changes something; otherwise no tree is built anew");
        Multidell net = leavingInASecond();
        Check.same("one already", false, net.setCandidate(0, true));
        stillLeaving(net);
        Multidell other = leavingInASecond();
        Check.same("none before", false, other.setCandidate(9, false));
        stillLeaving(other);
    }

    private static void promise3BecomesOneBuildsAnew() {
        Check.sentence(3, "a router becomes a candidate .., all trees are built anew: all branches go");
        Multidell net = leavingInASecond();
        sameRendezvousPoints(net);
        Check.same("a candidate more", true, net.setCandidate(5, true));
        sameRendezvousPoints(net);
        builtAnew(net);
    }

    private static void promise3IsNoLongerOneBuildsAnew() {
        Check.sentence(3, "a router .. is no longer one, all trees are built anew: all branches go");
        Multidell net = leavingInASecond();
        net.setCandidate(5, true);
        leaveInASecond(net);
        sameRendezvousPoints(net);
        Check.same("a candidate less", true, net.setCandidate(5, false));
        sameRendezvousPoints(net);
        builtAnew(net);
    }

    private static void promise4LeastLimit() {
        Check.sentence(4, "limit: 1 to 100");
        Multidell net = Nets.made(Nets::chain);
        net.join(2, 0);
        net.setLimit(1);
        Check.same("none received", 0, net.switched(1, 0));
        Nets.sendFollowed(net, 1, 0, 1);
        Check.same("the first one", Check.set(2), net.switched(1, 0));
    }

    private static void promise4GreatestLimit() {
        Check.sentence(4, "limit: 1 to 100");
        Multidell net = Nets.made(Nets::chain);
        net.join(2, 0);
        Check.same("100 is a limit", 3, net.setLimit(100));
        Nets.sendFollowed(net, 1, 0, 99);
        Check.same("99", 0, net.switched(1, 0));
        Nets.sendFollowed(net, 1, 0, 1);
        Check.same("100", Check.set(2), net.switched(1, 0));
    }

    private static void promise4LimitBefore() {
        Check.sentence(4, "Returns the limit before");
        Multidell net = new Multidell();
        Check.same("before the first", 3, net.setLimit(1));
        Check.same("before the second", 1, net.setLimit(100));
        Check.same("the same again", 100, net.setLimit(100));
        Check.same("before the last", 100, net.setLimit(2));
    }

    private static void promise4LowerLimitFromNowOn() {
        Check.sentence(4, "It counts for packets that are received from now on");
        Multidell net = Nets.made(Nets::chain);
        net.join(2, 0);
        Nets.sendFollowed(net, 1, 0, 2);
        net.setLimit(1);
        Check.same("two received before", 0, net.switched(1, 0));
        net.send(1, 0);
        net.follow();
        Check.same("on its way", 0, net.switched(1, 0));
        net.follow();
        Check.same("the third, 1 or more", Check.set(2), net.switched(1, 0));
    }

    private static void promise4HigherLimitFromNowOn() {
        Check.sentence(4, "It counts for packets that are received from now on");
        Multidell net = Nets.made(Nets::chain);
        net.join(2, 0);
        Nets.sendFollowed(net, 1, 0, 2);
        net.send(1, 0);
        net.setLimit(4);
        net.followAll();
        Check.same("sent before, received behind it", 0, net.switched(1, 0));
        Nets.sendFollowed(net, 1, 0, 1);
        Check.same("the fourth", Check.set(2), net.switched(1, 0));
        net.setLimit(100);
        Check.same("who has switched stays", Check.set(2), net.switched(1, 0));
    }

    private static void promise5OneAndTheSame() {
        Check.sentence(5, "it is 0 for one and the same");
        Multidell net = new Multidell();
        Check.same("the first, without links", 0, net.distance(0, 0));
        Check.same("the last, without links", 0, net.distance(9, 9));
        net.setLink(0, 9, 1);
        Check.same("the first, with a link", 0, net.distance(0, 0));
        Check.same("the last, with a link", 0, net.distance(9, 9));
    }

    private static void promise5CannotBeReached() {
        Check.sentence(5, "NONE if the other one cannot be reached");
        Multidell net = Nets.made(Nets::longChain);
        Check.same("reached", 180, net.distance(9, 0));
        net.setLink(4, 5, 0);
        Check.same("to the other part", Multidell.NONE, net.distance(4, 5));
        Check.same("and back", Multidell.NONE, net.distance(9, 0));
        Check.same("in this part", 80, net.distance(0, 4));
        Check.same("in the other part", 80, net.distance(9, 5));
    }

    private static void promise5LeastAndGreatestDistance() {
        Check.sentence(5, "the least sum of costs of links from one to the other");
        Multidell net = Nets.made(Nets::longChain);
        Check.same("the greatest there is", 180, net.distance(0, 9));
        net.setLink(0, 9, 1);
        Check.same("the least there is", 1, net.distance(9, 0));
        Check.same("over both", 81, net.distance(0, 5));
        Check.same("not round", 80, net.distance(0, 4));
    }

    private static void promise5LeastSumNotFewestLinks() {
        Check.sentence(5, "the least sum of costs of links from one to the other");
        Multidell net = new Multidell();
        for (int router = 0; router < 9; router++) {
            net.setLink(router, router + 1, 2);
        }
        net.setLink(0, 9, 19);
        Check.same("nine links are nearer than one", 18, net.distance(0, 9));
        net.setLink(0, 9, 17);
        Check.same("one is nearer than nine", 17, net.distance(0, 9));
    }

    private static void promise6LowestNumberOfSeveral() {
        Check.sentence(6, "of several the one with the lowest number");
        Multidell net = new Multidell();
        for (int middle : new int[] {8, 5, 1}) {
            net.setLink(0, middle, 3);
            net.setLink(middle, 9, 3);
            Check.same("the lowest yet", middle, net.nextHop(0, 9));
            Check.same("and back", middle, net.nextHop(9, 0));
        }
        Check.same("the first router is the lowest", 0, net.nextHop(8, 1));
        net.setLink(9, 1, 2);
        net.setLink(0, 1, 4);
        Check.same("from 0, as far over 1", 1, net.nextHop(0, 9));
        net.setLink(0, 1, 5);
        Check.same("the lowest of those that are nearer", 5, net.nextHop(0, 9));
    }

    private static void promise6LowestNumberOrTheOtherItself() {
        Check.sentence(6, "of several the one with the lowest number");
        Multidell net = new Multidell();
        net.setLink(0, 4, 5);
        net.setLink(0, 7, 2);
        net.setLink(7, 4, 3);
        Check.same("the other one itself is lower", 4, net.nextHop(0, 4));
        net.setLink(0, 2, 2);
        net.setLink(2, 4, 3);
        Check.same("one on the way is lower", 2, net.nextHop(0, 4));
    }

    private static void promise6CannotBeReached() {
        Check.sentence(6, "There is none if the other one cannot be reached");
        Multidell net = Nets.made(Nets::longChain);
        Check.same("reached", 8, net.nextHop(9, 0));
        net.setLink(4, 5, 0);
        Check.same("to the other part", Multidell.NONE, net.nextHop(9, 0));
        Check.same("and back", Multidell.NONE, net.nextHop(4, 5));
        Check.same("without any link", Multidell.NONE, new Multidell().nextHop(0, 9));
    }

    private static void promise6OneAndTheSame() {
        Check.sentence(6, "or is the same");
        Multidell net = Nets.made(Nets::longChain);
        for (int router = 0; router < 10; router++) {
            Check.same("to itself", Multidell.NONE, net.nextHop(router, router));
        }
        Check.same("to itself, without links", Multidell.NONE, new Multidell().nextHop(9, 9));
    }

    private static void promise6LinkThatIsTooDear() {
        Check.sentence(6, "one whose distance .. and the cost of that link are together the distance of both");
        Multidell net = new Multidell();
        net.setLink(3, 6, 1);
        net.setLink(6, 8, 1);
        net.setLink(3, 8, 3);
        Check.same("not over its own link", 6, net.nextHop(3, 8));
        net.setLink(3, 8, 2);
        Check.same("the link is no longer", 6, net.nextHop(3, 8));
        net.setLink(3, 8, 1);
        Check.same("the link is shorter", 8, net.nextHop(3, 8));
    }

    private static void promise7NoneWithoutCandidates() {
        Check.sentence(7, "there is none without candidates");
        Multidell net = Nets.made(Nets::longChain);
        Check.same("one", 0, net.rendezvous(0));
        net.setCandidate(0, false);
        for (int group = 0; group < 4; group++) {
            Check.same("none", Multidell.NONE, net.rendezvous(group));
        }
    }

    // No two remainders of a group are the same, as 997 is a prime number: "of several the one with the
    // lowest number" never comes to bear.
    private static void promise7GreatestRemainderOfAll() {
        Check.sentence(7, "the greatest remainder of (31 * g + 17) * (53 * c + 29) by 997");
        for (int group = 0; group < 4; group++) {
            for (int one = 0; one < 10; one++) {
                Multidell net = new Multidell();
                net.setCandidate(one, true);
                for (int two = 0; two < 10; two++) {
                    net.setCandidate(two, true);
                    int due = remainder(group, one) > remainder(group, two) ? one : two;
                    Check.same("of two, group " + group, due, net.rendezvous(group));
                    if (two != one) {
                        net.setCandidate(two, false);
                    }
                }
            }
        }
    }

    private static int remainder(int group, int candidate) {
        return (31 * group + 17) * (53 * candidate + 29) % 997;
    }

    private static void promise7FirstAndLastGroup() {
        Check.sentence(7, "group: 0 to 3");
        Multidell net = new Multidell();
        for (int router = 0; router < 10; router++) {
            net.setCandidate(router, true);
        }
        // By hand: 17 * 347 by 997 is 914; 48 * 82 is 945; 79 * 188 is 894; 110 * 453 is 977.
        Check.same("group 0", 6, net.rendezvous(0));
        Check.same("group 1", 1, net.rendezvous(1));
        Check.same("group 2", 3, net.rendezvous(2));
        Check.same("group 3", 8, net.rendezvous(3));
    }

    private static void promise7CandidateWithoutLinks() {
        Check.sentence(7, "The rendezvous point of a group g is the candidate c with the greatest remainder");
        Multidell net = Nets.made(Nets::chain);
        net.setCandidate(6, true);
        Check.same("without links, but the greatest", 6, net.rendezvous(0));
        net.join(3, 0);
        Check.same("no way to it", 0, net.branches(6, 0) | net.branches(0, 0) | net.branches(2, 0));
    }
}
