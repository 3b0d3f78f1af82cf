/** Promises 8 to 11: join, leave, members, switched. */
public final class MembersTest {
    private MembersTest() {
    }

    public static void main(String[] args) {
        promise8Join();
        promise8JoinGrafts();
        promise9Leave();
        promise9LeaveForgetsSwitches();
        promise9LeaveForgetsCounts();
        promise10Members();
        promise11SwitchedAtTheLimit();
        promise11SwitchedWhoCounts();
        promise11SwitchedBySourceAndGroup();
        promise11SwitchedRoot();
        promise11SwitchedNotThroughASourceTree();
        Check.end();
    }

    private static void promise8Join() {
        Multidell net = new Multidell();
        for (int router = 0; router < 10; router++) {
            Check.same("join", router + 1, net.join(router, 3));
        }
        Check.same("join of another group", 1, net.join(9, 0));
        Check.same("members", 1023, net.members(3));
        Check.same("no trees without a rendezvous point", 0, net.branches(0, 3));
    }

    private static void promise8JoinGrafts() {
        Multidell net = Nets.made(Nets::chain);
        net.join(3, 1);
        Check.same("from 0", Check.set(1), net.branches(0, 1));
        Check.same("from 1", Check.set(2), net.branches(1, 1));
        Check.same("from 2", Check.set(3), net.branches(2, 1));
        Check.same("from 3", 0, net.branches(3, 1));
        net.leave(3, 1);
        net.pass(3);
        Check.same("the last branch went, the one above leaves", 1, net.leaving());
        net.join(2, 1);
        Check.same("leaving no more", 0, net.leaving());
        net.pass(20);
        Check.same("it stays", Check.set(2), net.branches(1, 1));
        net.join(7, 1);
        Check.same("not reached, no branch to it", Check.set(1), net.branches(0, 1));
        Check.same("the root joins", 3, net.join(0, 1));
        Check.same("no branch to the root", 0, net.branches(1, 1) & Check.set(0));
    }

    private static void promise9Leave() {
        Multidell net = new Multidell();
        net.join(0, 2);
        net.join(9, 2);
        net.join(5, 2);
        Check.same("leave", 2, net.leave(0, 2));
        Check.same("members", Check.set(5, 9), net.members(2));
        Check.same("leave", 1, net.leave(9, 2));
        Check.same("join again", 2, net.join(0, 2));
        Check.same("leave", 1, net.leave(5, 2));
        Check.same("leave", 0, net.leave(0, 2));
    }

    private static void promise9LeaveForgetsSwitches() {
        Multidell net = Nets.made(Nets::chain);
        net.setLimit(1);
        net.join(2, 0);
        net.join(1, 0);
        net.join(2, 1);
        for (int group = 0; group < 2; group++) {
            net.send(3, group);
            net.send(0, group);
            net.followAll();
        }
        Check.same("switched", Check.set(1, 2), net.switched(3, 0));
        net.leave(2, 0);
        Check.same("no more, of 3", Check.set(1), net.switched(3, 0));
        Check.same("no more, of 0", Check.set(1), net.switched(0, 0));
        Check.same("another group stays", Check.set(2), net.switched(3, 1));
        // The branch 1-2 of the shared tree and that of source 0; in that of source 3 the branch to 2
        // is wanted by the router 1 behind it.
        Check.same("leaving", 2, net.leaving());
        net.join(2, 0);
        Check.same("joining again is no switching", Check.set(1), net.switched(3, 0));
        Check.same("in the shared tree leaving no more", 1, net.leaving());
    }

    private static void promise9LeaveForgetsCounts() {
        Multidell net = Nets.made(Nets::chain);
        net.join(2, 0);
        net.join(2, 1);
        for (int packet = 0; packet < 2; packet++) {
            net.send(3, 0);
            net.send(1, 0);
            net.send(3, 1);
        }
        net.followAll();
        net.leave(2, 0);
        net.join(2, 0);
        for (int packet = 0; packet < 2; packet++) {
            net.send(3, 0);
            net.send(1, 0);
        }
        net.followAll();
        Check.same("two since it joined", 0, net.switched(3, 0) | net.switched(1, 0));
        net.send(3, 0);
        net.send(3, 1);
        net.followAll();
        Check.same("three since it joined", Check.set(2), net.switched(3, 0));
        Check.same("the counts for another group stayed", Check.set(2), net.switched(3, 1));
        Check.same("two of another source", 0, net.switched(1, 0));
    }

    private static void promise10Members() {
        Multidell net = new Multidell();
        net.join(0, 0);
        net.join(9, 0);
        net.join(4, 3);
        Check.same("members of 0", Check.set(0, 9), net.members(0));
        Check.same("members of 1", 0, net.members(1));
        Check.same("members of 3", Check.set(4), net.members(3));
        net.setCandidate(1, true);
        net.setLink(0, 1, 1);
        net.setLink(0, 1, 0);
        net.setCandidate(1, false);
        Check.same("members stay", Check.set(0, 9), net.members(0));
    }

    private static void promise11SwitchedAtTheLimit() {
        Multidell net = Nets.made(Nets::chain);
        net.join(1, 0);
        net.join(3, 0);
        net.send(2, 0);
        net.send(2, 0);
        net.followAll();
        Check.same("two are not three", 0, net.switched(2, 0));
        net.send(2, 0);
        net.follow();
        Check.same("1 got its third", Check.set(1), net.switched(2, 0));
        Check.same("1 is grafted", Check.set(1), net.sourceBranches(2, 2, 0));
        net.followAll();
        Check.same("3 got its third", Check.set(1, 3), net.switched(2, 0));
        Check.same("3 is grafted", Check.set(1, 3), net.sourceBranches(2, 2, 0));
        net.setLink(0, 1, 0);
        Check.same("switched without the shared tree", Check.set(1, 3), net.switched(2, 0));
        net.setLink(2, 3, 0);
        net.setLink(2, 3, 5);
        Check.same("grafted anew", Check.set(1, 3), net.sourceBranches(2, 2, 0));
    }

    private static void promise11SwitchedWhoCounts() {
        Multidell net = Nets.made(Nets::chain);
        net.setLimit(1);
        net.join(1, 0);
        net.send(1, 0);
        net.followAll();
        Check.same("the source itself received at once", 0, net.switched(1, 0));
        net.leave(1, 0);
        net.join(2, 0);
        net.send(1, 0);
        net.join(1, 0);
        Check.same("the source joins behind its packet", Multidell.RECEIVED, net.follow());
        Check.same("the source never switches to itself", 0, net.switched(1, 0));
        Check.same("2 receives", Multidell.RECEIVED, net.follow());
        Check.same("2 switches", Check.set(2), net.switched(1, 0));
        Check.same("nobody else", 0, net.switched(0, 0) | net.switched(2, 0));
    }

    private static void promise11SwitchedBySourceAndGroup() {
        Multidell net = Nets.made(Nets::chain);
        net.join(3, 0);
        net.join(3, 2);
        net.send(0, 0);
        net.send(1, 0);
        net.send(2, 0);
        net.send(0, 2);
        net.send(0, 2);
        net.followAll();
        Check.same("each source counts alone", 0,
                net.switched(0, 0) | net.switched(1, 0) | net.switched(2, 0));
        net.send(0, 2);
        net.followAll();
        Check.same("three of group 2", Check.set(3), net.switched(0, 2));
        Check.same("not of group 0", 0, net.switched(0, 0));
    }

    private static void promise11SwitchedRoot() {
        Multidell net = Nets.made(Nets::chain);
        net.setLimit(1);
        net.join(0, 0);
        net.send(2, 0);
        Check.same("the root counts and switches at once", Check.set(0), net.switched(2, 0));
        Check.same("and the packet goes on through the source tree", 1, net.queued());
        Check.same("to the router 1", 1, net.nextTo());
    }

    private static void promise11SwitchedNotThroughASourceTree() {
        for (int group = 0; group < 4; group++) {
            for (int source = 0; source < 2; source++) {
                Multidell net = Nets.made(Nets::chain);
                net.setLimit(1);
                net.join(3, group);
                net.send(source, group);
                net.followAll();
                net.setCandidate(0, false);
                net.join(2, group);
                net.send(source, group);
                net.followAll();
                Check.same("2 lies on the tree of the source", Check.set(2, 3), net.received(1));
                Check.same("but does not count", Check.set(3), net.switched(source, group));
            }
        }
    }
}
