/**
 * Promises 15 and 18 to 22: a test for each sentence of the document that names an edge of sending, the
 * queue of copies, and what is known of a packet. What is refused is in RefusalsTest.
 */
public final class SendEdgesTest {
    private SendEdgesTest() {
    }

    public static void main(String[] args) {
        promise15FirstAndLastNumber();
        promise15FirstAndLastSourceAndGroup();
        promise15AMemberAtOnce();
        promise15NoMemberReceivesNothing();
        promise15NoRendezvousPoint();
        promise15RendezvousPointIsTheSource();
        promise15RendezvousPointIsNotReached();
        promise15RendezvousPointIsReached();
        promise15RootOfTheSharedTreeAtOnce();
        promise15SharedTreeBeforeSourceTree();
        promise15SourceTreeWithoutSharedTree();
        promise15SourceTreeOfNobody();
        promise15RootSwitchesBeforeTheSourceTree();
        promise15ByRisingNumbers();
        promise15LeavingBranchesToo();
        promise15NoBranches();
        promise18NoneAndTwoHundred();
        promise18OneMoreIsLostAtOnce();
        promise18LastPlacesByRisingNumbers();
        promise18RoomForTheCopyThatWasTakenOut();
        promise18NoRoomForTwo();
        promise18SourceTreeFindsNoRoom();
        promise18RoomAgain();
        promise19None();
        promise19FirstAndLastRouter();
        promise19AskingTakesNothing();
        promise20FirstAndLastPacket();
        promise20NobodyAndAll();
        promise20MembersOfNowOrNot();
        promise20EachPacketAlone();
        promise21NoneAndSeveral();
        promise21AsTheRoot();
        promise21ThroughEachTree();
        promise21NoMember();
        promise21OnlyIfItHadReceived();
        promise21FirstAndLastPacket();
        promise22NoneAndLost();
        promise22Dropped();
        promise22LostAtOnce();
        promise22NothingElse();
        Check.end();
    }

    private static void promise15FirstAndLastNumber() {
        Check.sentence(15, "Throws IllegalStateException if 200 packets were sent");
        Multidell net = Nets.made(Nets::chain);
        net.join(1, 0);
        for (int packet = 0; packet < 200; packet++) {
            Check.same("its number", packet, net.send(0, 0));
        }
        Check.throwing("one more", IllegalStateException.class, () -> net.send(0, 0));
        Check.same("followed", 200, net.followAll());
        Check.throwing("one more", IllegalStateException.class, () -> net.send(3, 3));
        net.pass(100);
        Check.throwing("and still", IllegalStateException.class, () -> net.send(0, 0));
        Check.same("the last one was received", Check.set(1), net.received(199));
    }

    private static void promise15FirstAndLastSourceAndGroup() {
        Check.sentence(15, "source: 0 to 9, group: 0 to 3");
        for (int group = 0; group < 4; group++) {
            for (int source = 0; source < 10; source += 9) {
                Multidell net = new Multidell();
                net.setLink(0, 9, 1);
                net.setCandidate(9, true);
                net.join(0, group);
                net.join(9, group);
                Check.same("the first packet", 0, net.send(source, group));
                Check.same("at once", Check.set(source, 9), net.received(0));
                net.followAll();
                Check.same("to both", Check.set(0, 9), net.received(0));
                net.send(source, 3 - group);
                Check.same("another group has no members", 0, net.received(1));
            }
        }
    }

    private static void promise15AMemberAtOnce() {
        Check.sentence(15, "If the source is a member, it receives the packet at once");
        Multidell net = Nets.made(Nets::chain);
        net.join(3, 0);
        net.send(3, 0);
        Check.same("at once", Check.set(3), net.received(0));
        Check.same("a copy is on its way", 1, net.queued());
        net.setCandidate(0, false);
        net.send(3, 0);
        Check.same("without a rendezvous point too", Check.set(3), net.received(1));
        net.join(8, 0);
        net.send(8, 0);
        Check.same("without links too", Check.set(8), net.received(2));
    }

    private static void promise15NoMemberReceivesNothing() {
        Check.sentence(15, "If the source is a member, it receives the packet at once");
        Multidell net = Nets.made(Nets::chain);
        net.join(3, 1);
        net.send(3, 0);
        Check.same("a member of another group", 0, net.received(0));
        net.send(0, 1);
        Check.same("the root, no member", 0, net.received(1));
        net.join(3, 0);
        net.leave(3, 0);
        net.send(3, 0);
        Check.same("a member no longer", 0, net.received(2));
    }

    private static void promise15NoRendezvousPoint() {
        Check.sentence(15, "if the group has a rendezvous point");
        Multidell net = Nets.made(Nets::chain);
        net.setCandidate(0, false);
        net.join(0, 0);
        net.join(3, 0);
        net.send(1, 0);
        Check.same("nobody", 0, net.received(0));
        Check.same("no copies", 0, net.queued());
        Check.same("nothing is wasted", 0, net.wasted());
    }

    private static void promise15RendezvousPointIsTheSource() {
        Check.sentence(15, "a rendezvous point that is the source");
        Multidell net = Nets.made(Nets::chain);
        net.join(3, 0);
        net.send(0, 0);
        Check.same("a copy from the source", 1, net.queued());
        Check.same("to 1", 1, net.nextTo());
        Multidell alone = new Multidell();
        alone.setCandidate(7, true);
        alone.join(7, 0);
        alone.send(7, 0);
        Check.same("it gets its own", 1, alone.doubles(0));
        Check.same("it received it before", Check.set(7), alone.received(0));
    }

    private static void promise15RendezvousPointIsNotReached() {
        Check.sentence(15, "or can be reached from it");
        Multidell net = Nets.made(Nets::chain);
        net.join(0, 0);
        net.join(1, 0);
        net.join(8, 0);
        net.setLink(8, 9, 1);
        net.send(9, 0);
        Check.same("nobody", 0, net.received(0));
        Check.same("no copies", 0, net.queued());
        net.send(8, 0);
        Check.same("the source alone", Check.set(8), net.received(1));
        Check.same("no double", 0, net.doubles(1));
    }

    private static void promise15RendezvousPointIsReached() {
        Check.sentence(15, "or can be reached from it");
        Multidell net = Nets.made(Nets::longChain);
        net.join(0, 0);
        net.send(9, 0);
        Check.same("over 180", Check.set(0), net.received(0));
        net.setLink(8, 9, 0);
        net.send(9, 0);
        Check.same("no more", 0, net.received(1));
        net.send(8, 0);
        Check.same("over 160", Check.set(0), net.received(2));
    }

    private static void promise15RootOfTheSharedTreeAtOnce() {
        Check.sentence(15, "the root of the shared tree gets the packet at once");
        Multidell net = Nets.made(Nets::chain);
        net.join(0, 0);
        net.join(2, 0);
        net.send(3, 0);
        Check.same("received without a copy to it", Check.set(0), net.received(0));
        Check.same("no copy on the way to it", 1, net.queued());
        Check.same("but one from it", 1, net.nextTo());
    }

    private static void promise15SharedTreeBeforeSourceTree() {
        Check.sentence(15, "Then the packet goes on from the source through its source tree");
        Multidell net = Nets.made(Nets::star);
        net.setLimit(1);
        for (int router = 0; router < 9; router++) {
            net.leave(router, 0);
        }
        Nets.sendFollowed(net, 0, 0, 1);
        Check.same("9 has switched", Check.set(9), net.switched(0, 0));
        net.join(4, 0);
        net.pass(10);
        net.send(0, 0);
        Check.same("two and one", 3, net.queued());
        for (int due : new int[] {4, 9, 9}) {
            Check.same("shared to 4 and 9, then to 9", due, net.nextTo());
            net.follow();
        }
    }

    private static void promise15SourceTreeWithoutSharedTree() {
        Check.sentence(15, "Then the packet goes on from the source through its source tree");
        Multidell net = Nets.made(Nets::chain);
        net.setLimit(1);
        net.join(3, 0);
        Nets.sendFollowed(net, 2, 0, 1);
        net.setLink(0, 1, 0);
        net.send(2, 0);
        Check.same("one copy", 1, net.queued());
        Check.same("no rendezvous point is reached", Multidell.RECEIVED, net.follow());
        net.setCandidate(0, false);
        net.send(2, 0);
        Check.same("there is no rendezvous point", Multidell.RECEIVED, net.follow());
        Check.same("received", Check.set(3), net.received(1) & net.received(2));
    }

    private static void promise15SourceTreeOfNobody() {
        Check.sentence(15, "Then the packet goes on from the source through its source tree");
        Multidell net = Nets.made(Nets::chain);
        net.join(1, 0);
        net.join(3, 0);
        net.send(2, 0);
        Check.same("only the copy from the root", 1, net.queued());
        Check.same("to 1", 1, net.nextTo());
    }

    private static void promise15RootSwitchesBeforeTheSourceTree() {
        Check.sentence(15, "it receives it (and may switch by that)");
        Multidell net = Nets.made(Nets::chain);
        net.setLimit(1);
        net.join(0, 0);
        net.send(2, 0);
        Check.same("the root has switched", Check.set(0), net.switched(2, 0));
        Check.same("its branch gets a copy of this packet", 1, net.queued());
        Check.same("to 1", 1, net.nextTo());
        Check.same("by 1", Multidell.PASSED, net.follow());
        Check.same("a double", Multidell.PASSED, net.follow());
        Check.same("one", 1, net.doubles(0));
    }

    private static void promise15ByRisingNumbers() {
        Check.sentence(15, "by rising numbers of the routers to which they go");
        Multidell net = new Multidell();
        net.setCandidate(4, true);
        for (int router : new int[] {9, 2, 7, 0, 5}) {
            net.setLink(4, router, 1);
            net.join(router, 0);
        }
        net.send(4, 0);
        for (int due : new int[] {0, 2, 5, 7, 9}) {
            Check.same("the next lowest", due, net.nextTo());
            Check.same("received", Multidell.RECEIVED, net.follow());
        }
    }

    private static void promise15LeavingBranchesToo() {
        Check.sentence(15, "for each branch from that router, leaving ones too");
        Multidell net = Nets.made(Nets::fork);
        net.join(1, 0);
        net.leave(1, 0);
        net.pass(2);
        net.send(0, 0);
        Check.same("a copy", 1, net.queued());
        Check.same("without a member behind it", Multidell.PASSED, net.follow());
        net.pass(1);
        net.send(0, 0);
        Check.same("the branch went", 0, net.queued());
    }

    private static void promise15NoBranches() {
        Check.sentence(15, "for each branch from that router");
        Multidell net = Nets.made(Nets::chain);
        Check.same("no members", 0, net.send(1, 2));
        Check.same("no copies", 0, net.queued());
        Check.same("none wasted", 0, net.wasted());
        Check.same("none to follow", Multidell.NOTHING, net.follow());
    }

    /** The fork with the members 2 and 3; packets of 0 make a copy to 1 each, and two from there. */
    private static Multidell forkWith(int copies) {
        Multidell net = Nets.made(Nets::fork);
        net.join(2, 0);
        net.join(3, 0);
        for (int packet = 0; packet < copies; packet++) {
            net.send(0, 0);
        }
        return net;
    }

    /** The router 0 with the members 1 and 2 next to it; two copies a packet. */
    private static Multidell pairWith(int packets) {
        Multidell net = new Multidell();
        net.setCandidate(0, true);
        net.setLink(0, 1, 1);
        net.setLink(0, 2, 1);
        net.join(1, 0);
        net.join(2, 0);
        for (int packet = 0; packet < packets; packet++) {
            net.send(0, 0);
        }
        return net;
    }

    private static void promise18NoneAndTwoHundred() {
        Check.sentence(18, "At most 200 copies are in the queue");
        Multidell net = pairWith(0);
        for (int packet = 1; packet <= 100; packet++) {
            net.send(0, 0);
            Check.same("two more", 2 * packet, net.queued());
        }
        Check.same("200, and none lost", 0, net.wasted());
        Check.same("all are followed", 200, net.followAll());
        Check.same("none", 0, net.queued());
        Check.same("the last ones too", Check.set(1, 2), net.received(99));
    }

    private static void promise18OneMoreIsLostAtOnce() {
        Check.sentence(18, "a copy that would be one more is lost at once");
        Multidell net = pairWith(100);
        Check.same("full", 200, net.queued());
        net.send(0, 0);
        Check.same("full still", 200, net.queued());
        Check.same("both are lost at once", 2, net.wasted());
        net.followAll();
        Check.same("the packet before it", Check.set(1, 2), net.received(99));
        Check.same("nobody received it", 0, net.received(100));
    }

    private static void promise18LastPlacesByRisingNumbers() {
        Check.sentence(18, "by rising numbers .., a copy is put at the end of the queue");
        Multidell net = Nets.made(Nets::star);
        for (int packet = 0; packet < 22; packet++) {
            net.send(0, 0);
        }
        Check.same("198", 198, net.queued());
        net.send(0, 0);
        Check.same("two places were left", 200, net.queued());
        Check.same("seven are lost", 7, net.wasted());
        net.followAll();
        Check.same("the lowest two received it", Check.set(0, 1, 2), net.received(22));
    }

    private static void promise18RoomForTheCopyThatWasTakenOut() {
        Check.sentence(18, "To follow a copy is to take the first one out of the queue");
        Multidell net = Nets.made(Nets::chain);
        net.join(2, 0);
        for (int packet = 0; packet < 200; packet++) {
            net.send(0, 0);
        }
        Check.same("full", 200, net.queued());
        Check.same("followed", Multidell.PASSED, net.follow());
        Check.same("its own place is free for its next copy", 200, net.queued());
        Check.same("none is lost", 0, net.wasted());
        Check.same("all of them", 399, net.followAll());
        Check.same("none is lost", 0, net.wasted());
        Check.same("all received", Check.set(2), net.received(0) & net.received(199));
    }

    private static void promise18NoRoomForTwo() {
        Check.sentence(18, "a copy that would be one more is lost at once");
        Multidell net = forkWith(200);
        Check.same("full", 200, net.queued());
        net.follow();
        Check.same("the one to 2", 200, net.queued());
        Check.same("the one to 3 is lost", 1, net.wasted());
        Check.same("199 to 1 and 200 to 2", 399, net.followAll());
        Check.same("200 were lost", 200, net.wasted());
        Check.same("2 received all", Check.set(2), net.received(0) | net.received(199));
    }

    private static void promise18SourceTreeFindsNoRoom() {
        Check.sentence(18, "At most 200 copies are in the queue");
        Multidell net = pairWith(0);
        net.setLimit(1);
        Nets.sendFollowed(net, 0, 0, 1);
        Check.same("both have switched", Check.set(1, 2), net.switched(0, 0));
        for (int packet = 0; packet < 50; packet++) {
            net.send(0, 0);
        }
        Check.same("four copies each", 200, net.queued());
        net.follow();
        net.send(0, 0);
        Check.same("room for one of the shared tree", 200, net.queued());
        Check.same("one of it and two of the source's are lost", 3, net.wasted());
    }

    private static void promise18RoomAgain() {
        Check.sentence(18, "At most 200 copies are in the queue");
        Multidell net = pairWith(100);
        net.setLink(0, 1, 0);
        Check.same("lost", Multidell.LOST, net.follow());
        Check.same("one place", 199, net.queued());
        net.send(0, 0);
        Check.same("taken by the copy to 2", 200, net.queued());
        Check.same("one lost", 1, net.wasted());
        Check.same("all of them", 200, net.followAll());
        Check.same("the newest was received", Check.set(2), net.received(100));
    }

    private static void promise19None() {
        Check.sentence(19, "NONE if there is none");
        Multidell net = Nets.made(Nets::chain);
        net.join(1, 0);
        Check.same("none yet", Multidell.NONE, net.nextTo());
        net.send(0, 0);
        Check.same("one", 1, net.nextTo());
        net.follow();
        Check.same("none any more", Multidell.NONE, net.nextTo());
        net.send(0, 0);
        net.followAll();
        Check.same("none any more", Multidell.NONE, net.nextTo());
    }

    private static void promise19FirstAndLastRouter() {
        Check.sentence(19, "Returns the router to which the first copy in the queue comes");
        for (int router = 0; router < 10; router += 9) {
            Multidell net = new Multidell();
            net.setLink(0, 9, 1);
            net.setCandidate(9 - router, true);
            net.join(router, 0);
            net.send(9 - router, 0);
            Check.same("to the other end", router, net.nextTo());
        }
    }

    private static void promise19AskingTakesNothing() {
        Check.sentence(19, "Returns the router to which the first copy in the queue comes");
        Multidell net = pairWith(1);
        Check.same("the first", 1, net.nextTo());
        Check.same("again", 1, net.nextTo());
        net.setLink(0, 1, 0);
        net.setCandidate(0, false);
        Check.same("also if it will be lost", 1, net.nextTo());
        Check.same("two", 2, net.queued());
    }

    private static void promise20FirstAndLastPacket() {
        Check.sentence(20, "packet: the number of a packet");
        Multidell net = Nets.made(Nets::chain);
        for (int packet = 0; packet < 200; packet++) {
            int next = packet;
            Check.throwing("not sent yet", IndexOutOfBoundsException.class, () -> net.received(next));
            net.send(0, 0);
        }
        Check.same("the first", 0, net.received(0));
        Check.same("the last", 0, net.received(199));
        Check.throwing("one more", IndexOutOfBoundsException.class, () -> net.received(200));
        Check.throwing("one before", IndexOutOfBoundsException.class, () -> net.received(-1));
    }

    private static void promise20NobodyAndAll() {
        Check.sentence(20, "Returns which routers have received a packet");
        Multidell net = Nets.made(Nets::star);
        net.send(3, 1);
        Check.same("nobody", 0, net.received(0));
        net.send(3, 0);
        int due = Check.set(0, 3);
        for (int router = 1; router < 10; router++) {
            Check.same("so far", due, net.received(1));
            net.follow();
            due |= 1 << router;
        }
        Check.same("all", 1023, net.received(1));
    }

    private static void promise20MembersOfNowOrNot() {
        Check.sentence(20, "whether they are members now or not");
        Multidell net = pairWith(1);
        net.followAll();
        net.leave(1, 0);
        Check.same("a member no longer", Check.set(1, 2), net.received(0));
        net.join(5, 0);
        Check.same("not a new member", Check.set(1, 2), net.received(0));
        net.join(1, 0);
        Check.same("a member again", Check.set(1, 2), net.received(0));
    }

    private static void promise20EachPacketAlone() {
        Check.sentence(20, "Returns which routers have received a packet");
        Multidell net = pairWith(3);
        net.follow();
        Check.same("the first", Check.set(1), net.received(0));
        Check.same("not the second", 0, net.received(1));
        net.follow();
        net.follow();
        Check.same("the first", Check.set(1, 2), net.received(0));
        Check.same("the second", Check.set(1), net.received(1));
        Check.same("not the third", 0, net.received(2));
    }

    private static void promise21NoneAndSeveral() {
        Check.sentence(21, "Returns how often");
        Multidell net = Nets.made(Nets::star);
        net.setLimit(1);
        net.leave(0, 0);
        Nets.sendFollowed(net, 0, 0, 1);
        Check.same("none", 0, net.doubles(0));
        Check.same("nine have switched", 1022, net.switched(0, 0));
        net.send(0, 0);
        for (int copy = 0; copy < 9; copy++) {
            Check.same("received", Multidell.RECEIVED, net.follow());
            Check.same("none yet", 0, net.doubles(1));
        }
        for (int copy = 1; copy <= 9; copy++) {
            Check.same("a double", Multidell.PASSED, net.follow());
            Check.same("one more", copy, net.doubles(1));
        }
        Check.same("not of the other packet", 0, net.doubles(0));
    }

    private static void promise21AsTheRoot() {
        Check.sentence(21, "or as the root of the shared tree");
        Multidell net = Nets.made(Nets::chain);
        net.join(0, 0);
        net.send(0, 0);
        Check.same("its own packet, at once", 1, net.doubles(0));
        net.send(1, 0);
        Check.same("another one's, for the first time", 0, net.doubles(1));
        net.send(0, 1);
        Check.same("no member of that group", 0, net.doubles(2));
    }

    private static void promise21ThroughEachTree() {
        Check.sentence(21, "got a packet, through a tree .., that it had received already");
        Multidell net = Nets.made(Nets::chain);
        net.setLimit(1);
        net.join(2, 0);
        Nets.sendFollowed(net, 3, 0, 1);
        net.send(3, 0);
        net.send(2, 0);
        net.followAll();
        Check.same("through the shared tree, behind the source's", 1, net.doubles(1));
        Check.same("the source, through the shared tree", 1, net.doubles(2));
        net.join(0, 0);
        Nets.sendFollowed(net, 3, 0, 1);
        Check.same("2 and the root, which switched by it", 2, net.doubles(3));
        Nets.sendFollowed(net, 3, 0, 1);
        Check.same("the root, through the source tree", 2, net.doubles(4));
    }

    private static void promise21NoMember() {
        Check.sentence(21, "how often a member of its group got a packet");
        Multidell net = Nets.made(Nets::chain);
        net.join(3, 0);
        net.send(3, 0);
        net.leave(3, 0);
        net.followAll();
        Check.same("it had it, but is no member", 0, net.doubles(0));
        net.join(3, 1);
        net.join(2, 0);
        net.send(2, 0);
        net.followAll();
        Check.same("the source's own: 1 got it as well, but is no member", 1, net.doubles(1));
        net.join(3, 0);
        net.send(3, 0);
        net.leave(3, 0);
        net.join(3, 0);
        net.followAll();
        Check.same("it had it, and is one again", 1, net.doubles(2));
    }

    private static void promise21OnlyIfItHadReceived() {
        Check.sentence(21, "that it had received already");
        Multidell net = Nets.made(Nets::chain);
        net.setLimit(1);
        net.join(3, 0);
        Nets.sendFollowed(net, 0, 0, 1);
        net.send(0, 0);
        Check.same("1 passes it on", Multidell.PASSED, net.follow());
        net.join(1, 0);
        Check.same("1 got it, but received nothing yet", Multidell.RECEIVED, net.follow());
        Check.same("no double", 0, net.doubles(1));
    }

    private static void promise21FirstAndLastPacket() {
        Check.sentence(21, "packet: the number of a packet");
        Multidell net = Nets.made(Nets::chain);
        net.join(0, 0);
        for (int packet = 0; packet < 200; packet++) {
            int next = packet;
            Check.throwing("not sent yet", IndexOutOfBoundsException.class, () -> net.doubles(next));
            net.send(0, 0);
        }
        Check.same("the first", 1, net.doubles(0));
        Check.same("the last", 1, net.doubles(199));
        Check.throwing("one more", IndexOutOfBoundsException.class, () -> net.doubles(200));
        Check.throwing("one before", IndexOutOfBoundsException.class, () -> net.doubles(-1));
    }

    private static void promise22NoneAndLost() {
        Check.sentence(22, "Returns how many copies were lost");
        Multidell net = pairWith(2);
        Check.same("none", 0, net.wasted());
        net.setLink(0, 1, 0);
        Check.same("not before they are followed", 0, net.wasted());
        net.follow();
        Check.same("one", 1, net.wasted());
        net.followAll();
        Check.same("two of four", 2, net.wasted());
    }

    private static void promise22Dropped() {
        Check.sentence(22, "Returns how many copies were .. dropped so far");
        Multidell net = pairWith(2);
        net.setCandidate(0, false);
        Check.same("not before they are followed", 0, net.wasted());
        net.follow();
        Check.same("one", 1, net.wasted());
        net.setCandidate(0, true);
        net.follow();
        Check.same("one was received", 1, net.wasted());
        net.setCandidate(0, false);
        net.followAll();
        Check.same("three of four", 3, net.wasted());
    }

    private static void promise22LostAtOnce() {
        Check.sentence(22, "also those that were lost at once");
        Multidell net = pairWith(100);
        Check.same("none", 0, net.wasted());
        for (int packet = 1; packet <= 100; packet++) {
            net.send(0, 0);
            Check.same("two more", 2 * packet, net.wasted());
        }
        net.followAll();
        Check.same("the others were received", 200, net.wasted());
    }

    private static void promise22NothingElse() {
        Check.sentence(22, "Returns how many copies were lost or dropped so far");
        Multidell net = Nets.made(Nets::chain);
        net.setLimit(1);
        net.join(0, 0);
        net.join(2, 0);
        Nets.sendFollowed(net, 3, 0, 3);
        net.send(0, 3);
        Check.same("there were doubles", true, net.doubles(2) > 0);
        Check.same("passed, received and doubles", 0, net.wasted());
    }
}
