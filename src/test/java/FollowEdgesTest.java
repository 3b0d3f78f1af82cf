/**
 * Promises 16 and 17: a test for each sentence of the document that names an edge of following copies.
 */
public final class FollowEdgesTest {
    private FollowEdgesTest() {
    }

    public static void main(String[] args) {
        promise16Nothing();
        promise16TakesTheFirstOne();
        promise16PutAtTheEnd();
        promise16LostWithoutALink();
        promise16LinkOfAnotherCost();
        promise16LinkThatIsThereAgain();
        promise16LostBeforeDropped();
        promise16DroppedIfNotTheNextHop();
        promise16DroppedIfAnotherNextHopIsLower();
        promise16DroppedAtTheRootOfNow();
        promise16DroppedWithoutRendezvousPoint();
        promise16DroppedIfTheRootIsOutOfReach();
        promise16DroppedGoesNowhere();
        promise16DroppedIsNotCounted();
        promise16RendezvousPointOfNow();
        promise16SourceTreeHasItsOwnRoot();
        promise16SourceTreeIsChecked();
        promise16PassedByWhoIsNoMember();
        promise16PassedByWhoHasReceived();
        promise16ReceivedByWhoIsAMemberNow();
        promise16BranchOfTheCopyWent();
        promise16GoesOnThroughThatTree();
        promise17None();
        promise17OneAndItsNext();
        promise17TheMost();
        promise17LostAndDroppedOnesToo();
        Check.end();
    }

    private static void promise16Nothing() {
        Check.sentence(16, "NOTHING if there was none in the queue");
        Multidell net = Nets.made(Nets::chain);
        Check.same("none yet", Multidell.NOTHING, net.follow());
        net.join(1, 0);
        net.send(0, 0);
        Check.same("one", Multidell.RECEIVED, net.follow());
        Check.same("none any more", Multidell.NOTHING, net.follow());
        Check.same("and still none", Multidell.NOTHING, net.follow());
        Check.same("none is wasted by that", 0, net.wasted());
        Check.same("none is queued", 0, net.queued());
        net.send(0, 0);
        Check.same("one again", Multidell.RECEIVED, net.follow());
    }

    private static void promise16TakesTheFirstOne() {
        Check.sentence(16, "To follow a copy is to take the first one out of the queue");
        Multidell net = Nets.made(Nets::star);
        net.send(0, 0);
        for (int router = 1; router < 10; router++) {
            Check.same("left", 10 - router, net.queued());
            Check.same("the first", router, net.nextTo());
            net.follow();
            Check.same("received", Check.set(router), net.received(0) & Check.set(router));
        }
        Check.same("none left", 0, net.queued());
    }

    private static void promise16PutAtTheEnd() {
        Check.sentence(16, "a copy is put at the end of the queue of copies");
        Multidell net = Nets.made(Nets::chain);
        net.join(2, 0);
        net.send(0, 0);
        net.send(0, 0);
        for (int due : new int[] {1, 1, 2, 2}) {
            Check.same("one step of all, then the next", due, net.nextTo());
            net.follow();
        }
        Check.same("that is all", Multidell.NONE, net.nextTo());
    }

    private static void promise16LostWithoutALink() {
        Check.sentence(16, "It is lost if these two have no link now");
        Multidell net = Nets.made(Nets::chain);
        net.join(1, 0);
        net.send(0, 0);
        net.setLink(0, 1, 0);
        net.setLink(0, 3, 1);
        Check.same("there is another way, but no link", Multidell.LOST, net.follow());
        Check.same("nobody received it", 0, net.received(0));
        Check.same("it is out of the queue", 0, net.queued());
        Check.same("wasted", 1, net.wasted());
    }

    private static void promise16LinkOfAnotherCost() {
        Check.sentence(16, "It is lost if these two have no link now");
        Multidell net = Nets.made(Nets::chain);
        net.join(1, 0);
        net.send(0, 0);
        net.setLink(0, 1, 20);
        Check.same("a dear link is one", Multidell.RECEIVED, net.follow());
    }

    private static void promise16LinkThatIsThereAgain() {
        Check.sentence(16, "no link now");
        Multidell net = Nets.made(Nets::chain);
        net.join(1, 0);
        net.send(0, 0);
        net.setLink(0, 1, 0);
        net.setLink(0, 1, 2);
        Check.same("now there is one", Multidell.RECEIVED, net.follow());
        Check.same("nothing is wasted", 0, net.wasted());
    }

    private static void promise16LostBeforeDropped() {
        Check.sentence(16, "Otherwise it is dropped");
        Multidell net = Nets.made(Nets::chain);
        net.join(1, 0);
        net.send(0, 0);
        net.send(0, 0);
        net.setLink(0, 1, 0);
        Check.same("no way to the root either", Multidell.LOST, net.follow());
        net.setCandidate(0, false);
        Check.same("no rendezvous point either", Multidell.LOST, net.follow());
        Check.same("one each", 2, net.wasted());
    }

    private static void promise16DroppedIfNotTheNextHop() {
        Check.sentence(16, "dropped if the router that it comes from is not the next hop, now");
        Multidell net = Nets.made(Nets::chain);
        net.setLink(0, 1, 2);
        net.setLink(0, 2, 2);
        net.join(1, 0);
        net.send(0, 0);
        net.setLink(0, 1, 3);
        Check.same("as far over 2, but 0 is lower", Multidell.RECEIVED, net.follow());
        net.send(0, 0);
        net.setLink(0, 1, 4);
        Check.same("nearer over 2", Multidell.DROPPED, net.follow());
        Check.same("wasted", 1, net.wasted());
    }

    private static void promise16DroppedIfAnotherNextHopIsLower() {
        Check.sentence(16, "is not the next hop");
        Multidell net = new Multidell();
        net.setLink(9, 7, 1);
        net.setLink(7, 8, 1);
        net.setCandidate(9, true);
        net.join(8, 0);
        net.send(9, 0);
        net.follow();
        net.setLink(9, 4, 1);
        net.setLink(4, 8, 1);
        Check.same("as far over 4, which is lower than 7", Multidell.DROPPED, net.follow());
    }

    private static void promise16DroppedAtTheRootOfNow() {
        Check.sentence(16, "the rendezvous point of now, for the shared tree");
        Multidell net = Nets.made(Nets::chain);
        net.join(1, 0);
        net.send(0, 0);
        net.setCandidate(0, false);
        net.setCandidate(1, true);
        Check.same("the root has no next hop to itself", Multidell.DROPPED, net.follow());
        Check.same("the root does not receive it", 0, net.received(0));
    }

    private static void promise16DroppedWithoutRendezvousPoint() {
        Check.sentence(16, "without one it is dropped");
        Multidell net = Nets.made(Nets::chain);
        net.join(1, 0);
        net.send(0, 0);
        net.setCandidate(0, false);
        Check.same("none now", Multidell.DROPPED, net.follow());
        Check.same("wasted", 1, net.wasted());
        Check.same("nobody received it", 0, net.received(0));
    }

    private static void promise16DroppedIfTheRootIsOutOfReach() {
        Check.sentence(16, "is not the next hop, now, from the router that it comes to, to the root");
        Multidell net = Nets.made(Nets::chain);
        net.join(2, 0);
        net.send(0, 0);
        net.follow();
        Check.same("on the way to 2", 2, net.nextTo());
        net.setLink(0, 1, 0);
        Check.same("1 and 2 have a link, but no way to 0", Multidell.DROPPED, net.follow());
    }

    private static void promise16DroppedGoesNowhere() {
        Check.sentence(16, "Otherwise the router gets the packet through that tree");
        Multidell net = Nets.made(Nets::chain);
        net.join(1, 0);
        net.join(3, 0);
        net.send(0, 0);
        net.setCandidate(3, true);
        net.setCandidate(0, false);
        Check.same("dropped", Multidell.DROPPED, net.follow());
        Check.same("1 has a branch, but no copy comes", 0, net.queued());
        Check.same("1 did not receive", 0, net.received(0));
        Check.same("nor has it a double", 0, net.doubles(0));
    }

    private static void promise16DroppedIsNotCounted() {
        Check.sentence(16, "Otherwise the router gets the packet through that tree");
        Multidell net = Nets.made(Nets::chain);
        net.setLimit(2);
        net.join(1, 0);
        net.send(3, 0);
        net.setCandidate(0, false);
        net.follow();
        net.setCandidate(0, true);
        net.send(3, 0);
        net.follow();
        Check.same("one received of two", 0, net.switched(3, 0));
        net.send(3, 0);
        net.follow();
        Check.same("two received", Check.set(1), net.switched(3, 0));
    }

    private static void promise16RendezvousPointOfNow() {
        Check.sentence(16, "the rendezvous point of now, for the shared tree");
        Multidell net = Nets.made(Nets::chain);
        net.setLink(0, 9, 1);
        net.join(1, 0);
        net.join(2, 0);
        net.send(0, 0);
        net.send(0, 0);
        net.setCandidate(9, true);
        Check.same("another root", 9, net.rendezvous(0));
        Check.same("0 is the next hop to it", Multidell.RECEIVED, net.follow());
        net.setCandidate(9, false);
        net.setCandidate(0, false);
        net.setCandidate(2, true);
        Check.same("0 is not the next hop to 2", Multidell.DROPPED, net.follow());
        Check.same("from 1 on the way to the root itself", 2, net.nextTo());
        Check.same("dropped there", Multidell.DROPPED, net.follow());
    }

    /** The chain with a limit of 1, where 3 has switched to 1, and only the source tree is left. */
    private static Multidell onlySourceTree() {
        Multidell net = Nets.made(Nets::chain);
        net.setLimit(1);
        net.join(3, 0);
        Nets.sendFollowed(net, 1, 0, 1);
        net.setCandidate(0, false);
        return net;
    }

    private static void promise16SourceTreeHasItsOwnRoot() {
        Check.sentence(16, "to the root of the tree");
        Multidell net = onlySourceTree();
        net.setCandidate(3, true);
        net.send(1, 0);
        Check.same("3 is the rendezvous point and has it", Check.set(3), net.received(1));
        Check.same("two branches, two copies", 1, net.queued());
        Check.same("from 1, the next hop to 1", Multidell.PASSED, net.follow());
        net.setCandidate(3, false);
        Check.same("no rendezvous point is needed", Multidell.PASSED, net.follow());
        Check.same("a double", 1, net.doubles(1));
    }

    private static void promise16SourceTreeIsChecked() {
        Check.sentence(16, "the next hop, now, from the router that it comes to, to the root of the tree");
        Multidell net = onlySourceTree();
        net.send(1, 0);
        net.follow();
        net.setLink(1, 3, 1);
        Check.same("2 is not the next hop from 3 to 1", Multidell.DROPPED, net.follow());
        net.send(1, 0);
        net.setLink(1, 3, 0);
        Check.same("no link", Multidell.LOST, net.follow());
        net.send(1, 0);
        Check.same("back to the old way", Multidell.PASSED, net.follow());
        Check.same("received", Multidell.RECEIVED, net.follow());
    }

    private static void promise16PassedByWhoIsNoMember() {
        Check.sentence(16, "the router got the packet without receiving it");
        Multidell net = Nets.made(Nets::chain);
        net.join(3, 0);
        net.join(1, 1);
        net.send(0, 0);
        Check.same("a member of another group", Multidell.PASSED, net.follow());
        Check.same("a member of none", Multidell.PASSED, net.follow());
        net.leave(3, 0);
        Check.same("a member no longer", Multidell.PASSED, net.follow());
        Check.same("nobody received it", 0, net.received(0));
        Check.same("none wasted", 0, net.wasted());
    }

    private static void promise16PassedByWhoHasReceived() {
        Check.sentence(16, "if it is a member of the group, and has not received the packet");
        Multidell net = Nets.made(Nets::chain);
        net.join(1, 0);
        net.join(2, 0);
        net.send(1, 0);
        Check.same("the source has received it", Multidell.PASSED, net.follow());
        Check.same("it goes on from there", 1, net.queued());
        Check.same("2 has not", Multidell.RECEIVED, net.follow());
    }

    private static void promise16ReceivedByWhoIsAMemberNow() {
        Check.sentence(16, "if it is a member of the group");
        Multidell net = Nets.made(Nets::chain);
        net.join(3, 0);
        net.send(0, 0);
        net.join(1, 0);
        Check.same("joined behind the packet", Multidell.RECEIVED, net.follow());
        net.leave(3, 0);
        net.join(3, 0);
        net.follow();
        Check.same("left and joined again", Multidell.RECEIVED, net.follow());
    }

    private static void promise16BranchOfTheCopyWent() {
        Check.sentence(16, "Otherwise the router gets the packet through that tree");
        Multidell net = Nets.made(Nets::chain);
        net.join(1, 0);
        net.send(0, 0);
        net.leave(1, 0);
        net.pass(3);
        Check.same("the branch is gone", 0, net.branches(0, 0));
        Check.same("the copy comes all the same", Multidell.PASSED, net.follow());
    }

    private static void promise16GoesOnThroughThatTree() {
        Check.sentence(16, "then the packet goes on from there through that tree");
        Multidell net = Nets.made(Nets::fork);
        net.setLimit(1);
        net.join(2, 0);
        Nets.sendFollowed(net, 0, 0, 1);
        net.join(3, 0);
        net.send(0, 0);
        Check.same("one of each tree to 1", 2, net.queued());
        Check.same("shared", Multidell.PASSED, net.follow());
        Check.same("on to 2 and 3", 3, net.queued());
        Check.same("of the source", Multidell.PASSED, net.follow());
        Check.same("on to 2 alone", 3, net.queued());
        Check.same("2", Multidell.RECEIVED, net.follow());
        Check.same("3", Multidell.RECEIVED, net.follow());
        Check.same("2 again", 2, net.nextTo());
    }

    private static void promise17None() {
        Check.sentence(17, "Follows copies until there are none");
        Multidell net = Nets.made(Nets::chain);
        Check.same("none yet", 0, net.followAll());
        net.join(1, 0);
        net.send(0, 0);
        Check.same("one", 1, net.followAll());
        Check.same("none any more", 0, net.followAll());
        Check.same("queued", 0, net.queued());
    }

    private static void promise17OneAndItsNext() {
        Check.sentence(17, "Returns how many were followed");
        Multidell net = Nets.made(Nets::longChain);
        net.join(9, 0);
        net.send(0, 0);
        Check.same("one in the queue", 1, net.queued());
        Check.same("the first", Multidell.PASSED, net.follow());
        Check.same("and the eight that come of it", 8, net.followAll());
        Check.same("the last one received", Check.set(9), net.received(0));
    }

    private static void promise17TheMost() {
        Check.sentence(17, "Follows copies until there are none");
        Multidell net = Nets.made(Nets::longChain);
        net.join(9, 0);
        for (int packet = 0; packet < 200; packet++) {
            net.send(0, 0);
        }
        Check.same("200 copies, nine steps each", 1800, net.followAll());
        Check.same("none left", 0, net.queued());
        Check.same("none wasted", 0, net.wasted());
        Check.same("all received", Check.set(9), net.received(0) & net.received(199));
    }

    private static void promise17LostAndDroppedOnesToo() {
        Check.sentence(17, "Returns how many were followed");
        Multidell net = Nets.made(Nets::star);
        net.send(0, 0);
        net.setLink(0, 1, 0);
        net.setLink(1, 2, 1);
        net.setLink(2, 3, 1);
        net.setLink(0, 2, 20);
        Check.same("one lost, one dropped, two from 3 over 2", 11, net.followAll());
        Check.same("wasted", 2, net.wasted());
    }
}
