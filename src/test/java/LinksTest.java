/** Promises 1 to 7: a new object, links, candidates, the limit, routes, rendezvous points. */
public final class LinksTest {
    private LinksTest() {
    }

    public static void main(String[] args) {
        constants();
        promise1NewObject();
        promise2SetLinkAnswers();
        promise2SetLinkBuildsAnew();
        promise2SetLinkKeepsTrees();
        promise3SetCandidateAnswers();
        promise3SetCandidateBuildsAnew();
        promise4SetLimitAnswers();
        promise4SetLimitCountsFromNowOn();
        promise5Distance();
        promise6NextHop();
        promise7Rendezvous();
        Check.end();
    }

    private static void constants() {
        Check.same("NONE", -1, Multidell.NONE);
        Check.same("NOTHING", 0, Multidell.NOTHING);
        Check.same("LOST", 1, Multidell.LOST);
        Check.same("DROPPED", 2, Multidell.DROPPED);
        Check.same("PASSED", 3, Multidell.PASSED);
        Check.same("RECEIVED", 4, Multidell.RECEIVED);
    }

    private static void promise1NewObject() {
        Multidell net = new Multidell();
        for (int router = 0; router < 10; router++) {
            for (int other = 0; other < 10; other++) {
                Check.same("new: distance", router == other ? 0 : -1, net.distance(router, other));
                Check.same("new: nextHop", -1, net.nextHop(router, other));
            }
            Check.same("new: floodCopies", 0, net.floodCopies(router));
        }
        for (int group = 0; group < 4; group++) {
            Check.same("new: rendezvous", -1, net.rendezvous(group));
            Check.same("new: members", 0, net.members(group));
            for (int router = 0; router < 10; router++) {
                Check.same("new: branches", 0, net.branches(router, group));
                Check.same("new: switched", 0, net.switched(router, group));
                Check.same("new: floodMembers", 0, net.floodMembers(router, group));
            }
        }
        Check.same("new: leaving", 0, net.leaving());
        Check.same("new: follow", 0, net.follow());
        Check.same("new: followAll", 0, net.followAll());
        Check.same("new: queued", 0, net.queued());
        Check.same("new: nextTo", -1, net.nextTo());
        Check.same("new: wasted", 0, net.wasted());
        Check.same("new: clock", 0, net.clock());
        Check.same("new: limit", 3, net.setLimit(5));
        Check.same("new: no candidate", true, net.setCandidate(9, true));
        Check.same("new: first packet", 0, net.send(0, 0));
        Check.same("another new one has states of its own", 3, new Multidell().setLimit(7));
    }

    private static void promise2SetLinkAnswers() {
        Multidell net = new Multidell();
        Check.same("setLink of none to none", 0, net.setLink(3, 4, 0));
        Check.same("setLink, first", 0, net.setLink(3, 4, 20));
        Check.same("setLink, the same the other way", 20, net.setLink(4, 3, 20));
        Check.same("setLink, to 1", 20, net.setLink(4, 3, 1));
        Check.same("distance both ways", 1, net.distance(3, 4));
        Check.same("distance both ways", 1, net.distance(4, 3));
        Check.same("setLink, away", 1, net.setLink(3, 4, 0));
        Check.same("no link now", -1, net.distance(3, 4));
        Check.same("setLink, again", 0, net.setLink(9, 0, 7));
        Check.same("setLink, edges", 7, net.setLink(0, 9, 8));
    }

    private static void promise2SetLinkBuildsAnew() {
        Multidell net = Nets.made(Nets::chain);
        net.join(3, 0);
        net.join(2, 0);
        net.leave(3, 0);
        Check.same("a branch is leaving", 1, net.leaving());
        net.setLink(7, 8, 5);
        Check.same("a link elsewhere, all branches go", 0, net.leaving());
        Check.same("no branch to 3", 0, net.branches(2, 0));
        Check.same("the branch to 2 stands", Check.set(2), net.branches(1, 0));
        net.setLink(0, 2, 1);
        Check.same("the shorter way", Check.set(2), net.branches(0, 0));
        Check.same("not the longer way", 0, net.branches(1, 0));
        net.setLink(0, 2, 0);
        net.setLink(0, 1, 0);
        Check.same("cut off", 0, net.branches(1, 0));
        Check.same("cut off", 0, net.branches(0, 0));
        net.setLink(0, 1, 9);
        Check.same("linked again", Check.set(2), net.branches(1, 0));
        Check.same("linked again", Check.set(1), net.branches(0, 0));
        Check.same("nothing went by time", 0, net.pass(100));
    }

    private static void promise2SetLinkKeepsTrees() {
        Multidell net = Nets.made(Nets::chain);
        net.join(3, 0);
        net.leave(3, 0);
        Check.same("the same cost", 1, net.setLink(2, 1, 1));
        Check.same("no link before and after", 0, net.setLink(5, 6, 0));
        Check.same("no tree is built anew", 1, net.leaving());
        Check.same("no tree is built anew", Check.set(3), net.branches(2, 0));
    }

    private static void promise3SetCandidateAnswers() {
        Multidell net = new Multidell();
        Check.same("no candidate yet", false, net.setCandidate(4, false));
        Check.same("made one", true, net.setCandidate(4, true));
        Check.same("is one already", false, net.setCandidate(4, true));
        Check.same("another one", true, net.setCandidate(0, true));
        Check.same("and another one", true, net.setCandidate(9, true));
        Check.same("no longer one", true, net.setCandidate(4, false));
        Check.same("no longer one already", false, net.setCandidate(4, false));
    }

    private static void promise3SetCandidateBuildsAnew() {
        Multidell net = Nets.made(Nets::chain);
        net.join(3, 0);
        net.join(1, 0);
        net.leave(3, 0);
        Check.same("the same again", false, net.setCandidate(0, true));
        Check.same("nothing to change for 5", false, net.setCandidate(5, false));
        Check.same("no tree is built anew", 1, net.leaving());
        // The rendezvous point of group 0 stays 0: 3 has a smaller remainder.
        Check.same("a candidate more", true, net.setCandidate(3, true));
        Check.same("all trees are built anew", 0, net.leaving());
        Check.same("0 is the root still", Check.set(1), net.branches(0, 0));
        net.setCandidate(0, false);
        Check.same("3 is the root", 3, net.rendezvous(0));
        Check.same("from 3", Check.set(2), net.branches(3, 0));
        Check.same("from 2", Check.set(1), net.branches(2, 0));
        Check.same("not from 0", 0, net.branches(0, 0));
        net.setCandidate(3, false);
        Check.same("no root, no tree", 0, net.branches(3, 0) + net.branches(2, 0));
        net.setCandidate(2, true);
        Check.same("a tree again", Check.set(1), net.branches(2, 0));
    }

    private static void promise4SetLimitAnswers() {
        Multidell net = new Multidell();
        Check.same("first limit", 3, net.setLimit(1));
        Check.same("limit 1", 1, net.setLimit(100));
        Check.same("limit 100", 100, net.setLimit(100));
        Check.same("the same limit", 100, net.setLimit(3));
    }

    private static void promise4SetLimitCountsFromNowOn() {
        Multidell net = Nets.made(Nets::chain);
        net.join(2, 0);
        net.send(3, 0);
        net.send(3, 0);
        net.followAll();
        net.setLimit(1);
        Check.same("a lower limit alone switches nobody", 0, net.switched(3, 0));
        net.send(3, 0);
        net.followAll();
        Check.same("the count is above the limit", Check.set(2), net.switched(3, 0));
        net.setLimit(100);
        Check.same("a higher limit takes nothing back", Check.set(2), net.switched(3, 0));
        net.send(1, 0);
        net.followAll();
        Check.same("a high limit", 0, net.switched(1, 0));
        net.setLimit(2);
        net.send(1, 0);
        Check.same("received when it is followed, not when it is sent", 0, net.switched(1, 0));
        net.followAll();
        Check.same("the limit is met", Check.set(2), net.switched(1, 0));
    }

    private static void promise5Distance() {
        Multidell net = new Multidell();
        for (int router = 0; router < 9; router++) {
            net.setLink(router, router + 1, 20);
        }
        Check.same("the whole chain", 180, net.distance(0, 9));
        Check.same("the whole chain back", 180, net.distance(9, 0));
        Check.same("to itself", 0, net.distance(5, 5));
        net.setLink(0, 9, 20);
        Check.same("round the other way", 20, net.distance(0, 9));
        Check.same("half round", 100, net.distance(0, 5));
        net.setLink(0, 5, 19);
        Check.same("straight", 19, net.distance(5, 0));
        Check.same("one beyond", 39, net.distance(0, 4));
        net.setLink(5, 0, 0);
        net.setLink(2, 3, 0);
        net.setLink(7, 8, 0);
        Check.same("in two parts", -1, net.distance(0, 5));
        Check.same("in one part", 80, net.distance(2, 8));
    }

    private static void promise6NextHop() {
        Multidell net = new Multidell();
        net.setLink(0, 5, 2);
        net.setLink(0, 3, 2);
        net.setLink(5, 9, 2);
        net.setLink(3, 9, 2);
        Check.same("of two the lower", 3, net.nextHop(0, 9));
        Check.same("of two the lower, back", 3, net.nextHop(9, 0));
        Check.same("a neighbour", 5, net.nextHop(0, 5));
        Check.same("between the two", 0, net.nextHop(3, 5));
        net.setLink(0, 9, 4);
        Check.same("a link as long as the ways", 3, net.nextHop(0, 9));
        Check.same("back, 0 is the lowest", 0, net.nextHop(9, 0));
        net.setLink(0, 9, 3);
        Check.same("a shorter link", 9, net.nextHop(0, 9));
        net.setLink(3, 9, 3);
        net.setLink(0, 9, 0);
        Check.same("the shorter way, not the lower router", 5, net.nextHop(0, 9));
        Check.same("to itself", -1, net.nextHop(5, 5));
        Check.same("to nowhere", -1, net.nextHop(0, 1));
        Check.same("from nowhere", -1, net.nextHop(1, 0));
    }

    private static void promise7Rendezvous() {
        // The candidates of each group, the greatest remainder first, as reckoned by hand.
        int[][] order = {{6, 7, 8, 9, 0, 1, 2, 3, 4, 5}, {1, 8, 6, 4, 2, 0, 9, 7, 5, 3},
            {3, 8, 2, 7, 1, 6, 0, 5, 4, 9}, {8, 2, 9, 3, 4, 5, 6, 0, 7, 1}};
        for (int group = 0; group < 4; group++) {
            Multidell net = new Multidell();
            for (int place = 9; place >= 0; place--) {
                net.setCandidate(order[group][place], true);
                Check.same("rendezvous, more", order[group][place], net.rendezvous(group));
            }
            for (int place = 0; place < 9; place++) {
                net.setCandidate(order[group][place], false);
                Check.same("rendezvous, fewer", order[group][place + 1], net.rendezvous(group));
            }
            net.setCandidate(order[group][9], false);
            Check.same("rendezvous, none", -1, net.rendezvous(group));
        }
    }
}
