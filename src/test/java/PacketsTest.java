/** Promises 15 to 22: send, follow, followAll, queued, nextTo, received, doubles, wasted. */
public final class PacketsTest {
    private PacketsTest() {
    }

    public static void main(String[] args) {
        promise15SendNumbers();
        promise15SendAtOnce();
        promise15SendOutOfReach();
        promise15SendSwitchesBeforeTheSourceTree();
        promise16FollowReceivedAndPassed();
        promise16FollowLost();
        promise16FollowDropped();
        promise16FollowTheTreeOfNow();
        promise16FollowLeavingBranches();
        promise16FollowFirstInFirstOut();
        promise17FollowAll();
        promise18Queued();
        promise19NextTo();
        promise20Received();
        promise21Doubles();
        promise22Wasted();
        Check.end();
    }

    private static void promise15SendNumbers() {
        Multidell net = Nets.made(Nets::lively);
        Check.same("the next number", 6, net.send(9, 3));
        Check.same("the next number", 7, net.send(0, 0));
        Multidell other = new Multidell();
        for (int packet = 0; packet < 200; packet++) {
            Check.same("number", packet, other.send(packet % 10, packet % 4));
        }
        Check.same("the last packet is there", 0, other.received(199));
    }

    private static void promise15SendAtOnce() {
        Multidell net = Nets.made(Nets::chain);
        net.join(0, 0);
        net.join(2, 0);
        net.join(3, 0);
        net.send(3, 0);
        Check.same("the source and the root at once", Check.set(0, 3), net.received(0));
        Check.same("a copy from the root", 1, net.queued());
        Check.same("to 1", 1, net.nextTo());
        net.send(0, 0);
        Check.same("the root is the source", Check.set(0), net.received(1));
        Check.same("it got it twice", 1, net.doubles(1));
        Check.same("one copy more", 2, net.queued());
        net.send(1, 0);
        Check.same("a source that is no member", Check.set(0), net.received(2));
        net.send(1, 1);
        Check.same("a group without members", 0, net.received(3));
        Check.same("no copies", 3, net.queued());
    }

    private static void promise15SendOutOfReach() {
        Multidell net = Nets.made(Nets::chain);
        net.setLink(7, 8, 1);
        net.join(0, 0);
        net.join(3, 0);
        net.join(7, 0);
        net.send(7, 0);
        Check.same("only the source", Check.set(7), net.received(0));
        Check.same("no copies", 0, net.queued());
        net.send(8, 0);
        Check.same("nobody", 0, net.received(1));
        net.setCandidate(0, false);
        net.send(0, 0);
        Check.same("no rendezvous point", Check.set(0), net.received(2));
        Check.same("no copies", 0, net.queued());
        net.setCandidate(9, true);
        net.send(9, 0);
        Check.same("a root without links", 0, net.queued());
    }

    private static void promise15SendSwitchesBeforeTheSourceTree() {
        Multidell net = Nets.made(Nets::chain);
        net.setLimit(1);
        net.join(0, 0);
        net.join(1, 0);
        net.send(2, 0);
        Check.same("shared first, then the source's", 2, net.queued());
        Check.same("through the shared tree", Multidell.RECEIVED, net.follow());
        Check.same("1 is on the tree of 2", Check.set(0, 1), net.switched(2, 0));
        Check.same("through the source tree", Multidell.PASSED, net.follow());
        Check.same("on to the root", Multidell.PASSED, net.follow());
        Check.same("that is all", Multidell.NOTHING, net.follow());
        Check.same("both got it twice", 2, net.doubles(0));
    }

    private static void promise16FollowReceivedAndPassed() {
        Multidell net = Nets.made(Nets::chain);
        Check.same("nothing to follow", Multidell.NOTHING, net.follow());
        net.join(1, 0);
        net.join(3, 0);
        net.send(0, 0);
        Check.same("1 receives", Multidell.RECEIVED, net.follow());
        Check.same("2 is no member", Multidell.PASSED, net.follow());
        Check.same("3 receives", Multidell.RECEIVED, net.follow());
        Check.same("nothing more", Multidell.NOTHING, net.follow());
        net.send(1, 0);
        Check.same("1 has it already", Multidell.PASSED, net.follow());
        Check.same("it goes on all the same", Multidell.PASSED, net.follow());
        net.leave(3, 0);
        Check.same("3 has left", Multidell.PASSED, net.follow());
        net.send(0, 0);
        net.follow();
        net.follow();
        net.join(3, 0);
        Check.same("3 has joined again", Multidell.RECEIVED, net.follow());
    }

    private static void promise16FollowLost() {
        Multidell net = Nets.made(Nets::chain);
        net.join(2, 0);
        net.send(0, 0);
        net.setLink(0, 1, 0);
        net.setLink(0, 2, 1);
        net.setLink(2, 1, 7);
        Check.same("no link now", Multidell.LOST, net.follow());
        Check.same("it is out of the queue", 0, net.queued());
        net.send(0, 0);
        net.setLink(0, 2, 0);
        net.setCandidate(0, false);
        Check.same("lost comes before dropped", Multidell.LOST, net.follow());
        net.setCandidate(0, true);
        net.setLink(0, 2, 1);
        net.send(0, 0);
        net.setLink(0, 2, 0);
        net.setLink(0, 2, 20);
        Check.same("a link again", Multidell.RECEIVED, net.follow());
    }

    private static void promise16FollowDropped() {
        Multidell net = Nets.made(Nets::chain);
        net.join(1, 0);
        net.join(2, 0);
        net.send(0, 0);
        net.setLink(0, 1, 20);
        net.setLink(0, 2, 1);
        Check.same("0 is not the next hop from 1 to 0", Multidell.DROPPED, net.follow());
        net.send(0, 0);
        net.setCandidate(0, false);
        Check.same("no rendezvous point", Multidell.DROPPED, net.follow());
        net.setCandidate(0, true);
        net.send(0, 0);
        net.setCandidate(2, true);
        net.setCandidate(0, false);
        Check.same("it comes to the root of now", Multidell.DROPPED, net.follow());
        Check.same("dropped copies go nowhere", 0, net.queued());
        Check.same("nobody received", 0, net.received(0) | net.received(1) | net.received(2));
    }

    private static void promise16FollowTheTreeOfNow() {
        Multidell net = Nets.made(Nets::chain);
        net.join(1, 0);
        net.send(0, 0);
        net.setCandidate(9, true);
        net.setLink(9, 0, 1);
        net.join(3, 0);
        net.setCandidate(0, false);
        Check.same("another root, the same next hop", Multidell.RECEIVED, net.follow());
        Check.same("through the tree of now", Multidell.PASSED, net.follow());
        Check.same("to the new member", Multidell.RECEIVED, net.follow());
        net.setLimit(1);
        net.send(0, 1);
        net.join(2, 1);
        net.send(1, 1);
        net.followAll();
        net.setCandidate(9, false);
        net.send(1, 1);
        Check.same("a source tree needs no rendezvous point", Multidell.RECEIVED, net.follow());
    }

    private static void promise16FollowLeavingBranches() {
        Multidell net = Nets.made(Nets::chain);
        net.join(2, 0);
        net.leave(2, 0);
        net.send(0, 0);
        Check.same("a leaving branch is gone through", Multidell.PASSED, net.follow());
        Check.same("and the next", 2, net.nextTo());
        net.pass(6);
        Check.same("a copy whose branch went", Multidell.PASSED, net.follow());
        net.send(0, 0);
        Check.same("no branches", 0, net.queued());
    }

    private static void promise16FollowFirstInFirstOut() {
        Multidell net = Nets.made(Nets::star);
        net.send(0, 0);
        for (int router = 1; router < 10; router++) {
            Check.same("by rising numbers", router, net.nextTo());
            Check.same("received", Multidell.RECEIVED, net.follow());
        }
        net.setLink(9, 1, 0);
        net.setLink(0, 2, 0);
        net.setLink(1, 2, 1);
        net.send(0, 0);
        net.send(0, 0);
        for (int step = 0; step < 16; step++) {
            int router = step % 8 == 0 ? 1 : step % 8 + 2;
            Check.same("the two packets, one behind the other", router, net.nextTo());
            net.follow();
        }
        Check.same("the copies that came later", 2, net.nextTo());
        Check.same("both", 2, net.followAll());
    }

    private static void promise17FollowAll() {
        Multidell net = Nets.made(Nets::chain);
        net.join(3, 0);
        Check.same("none", 0, net.followAll());
        net.send(0, 0);
        Check.same("with those that come on the way", 3, net.followAll());
        Check.same("none left", 0, net.queued());
        Check.same("received", Check.set(3), net.received(0));
        net.send(0, 0);
        net.setLink(0, 1, 0);
        Check.same("a lost one is followed too", 1, net.followAll());
        net.setLink(0, 1, 1);
        net.send(0, 0);
        net.setCandidate(0, false);
        Check.same("a dropped one is followed too", 1, net.followAll());
    }

    private static void promise18Queued() {
        Multidell net = Nets.made(Nets::star);
        for (int packet = 1; packet <= 22; packet++) {
            net.send(0, 0);
            Check.same("nine more each", 9 * packet, net.queued());
        }
        net.send(0, 0);
        Check.same("200 at most", 200, net.queued());
        net.follow();
        Check.same("one less", 199, net.queued());
        net.send(1, 0);
        Check.same("room for one", 200, net.queued());
        Check.same("all", 200, net.followAll());
        Check.same("empty", 0, net.queued());
    }

    private static void promise19NextTo() {
        Multidell net = Nets.made(Nets::chain);
        net.join(1, 0);
        Check.same("none", -1, net.nextTo());
        net.send(0, 0);
        Check.same("to 1", 1, net.nextTo());
        Check.same("asking takes nothing", 1, net.nextTo());
        net.setLink(0, 1, 0);
        Check.same("also one that will be lost", 1, net.nextTo());
        net.follow();
        Check.same("none left", -1, net.nextTo());
        Multidell wide = new Multidell();
        wide.setCandidate(9, true);
        wide.setLink(9, 0, 1);
        wide.join(0, 0);
        wide.send(9, 0);
        Check.same("the router 0", 0, wide.nextTo());
    }

    private static void promise20Received() {
        Multidell net = Nets.made(Nets::chain);
        net.join(1, 0);
        net.join(2, 0);
        net.send(2, 0);
        Check.same("the source", Check.set(2), net.received(0));
        net.send(3, 0);
        Check.same("nobody yet", 0, net.received(1));
        net.followAll();
        Check.same("all members", Check.set(1, 2), net.received(0));
        net.leave(1, 0);
        net.leave(2, 0);
        Check.same("whether they are members now or not", Check.set(1, 2), net.received(0));
        net.join(3, 0);
        Check.same("not who joins later", Check.set(1, 2), net.received(1));
    }

    private static void promise21Doubles() {
        Multidell net = Nets.made(Nets::chain);
        net.setLimit(1);
        net.join(1, 0);
        net.join(2, 0);
        net.send(0, 0);
        net.send(3, 0);
        net.followAll();
        Check.same("through the shared tree alone", 0, net.doubles(1));
        Check.same("both switched", Check.set(1, 2), net.switched(3, 0));
        net.send(3, 0);
        net.followAll();
        Check.same("through both trees", 2, net.doubles(2));
        net.send(3, 0);
        net.follow();
        net.follow();
        net.leave(1, 0);
        net.followAll();
        Check.same("1 is no member any more", 1, net.doubles(3));
        Multidell again = Nets.made(Nets::chain);
        again.join(1, 0);
        again.send(1, 0);
        again.leave(1, 0);
        Check.same("no member", Multidell.PASSED, again.follow());
        Check.same("no double", 0, again.doubles(0));
        again.join(1, 0);
        again.send(1, 0);
        again.leave(1, 0);
        again.join(1, 0);
        Check.same("a member again, that had it", Multidell.PASSED, again.follow());
        Check.same("a double", 1, again.doubles(1));
        Check.same("of this packet alone", 0, again.doubles(0));
    }

    private static void promise22Wasted() {
        Multidell net = Nets.made(Nets::star);
        for (int packet = 0; packet < 22; packet++) {
            net.send(0, 0);
        }
        Check.same("198 copies", 0, net.wasted());
        net.send(0, 0);
        Check.same("seven are lost at once", 7, net.wasted());
        net.send(5, 0);
        Check.same("nine more", 16, net.wasted());
        net.setLink(0, 1, 0);
        net.follow();
        Check.same("a lost one", 17, net.wasted());
        net.setLink(1, 3, 1);
        net.setLink(3, 2, 1);
        net.setLink(0, 2, 20);
        net.follow();
        Check.same("a dropped one", 18, net.wasted());
        net.follow();
        Check.same("not one that is passed on", 18, net.wasted());
        Check.same("the copies from 3 are queued", 199, net.queued());
    }
}
