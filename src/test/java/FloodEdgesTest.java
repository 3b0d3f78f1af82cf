/**
 * Promises 25 and 26: a test for each sentence of the document that names an edge of flooding. What is
 * refused is in RefusalsTest.
 */
public final class FloodEdgesTest {
    private FloodEdgesTest() {
    }

    public static void main(String[] args) {
        promise25NoneAndAll();
        promise25FirstAndLastSourceAndGroup();
        promise25TheSourceItself();
        promise25OutOfReach();
        promise25MembersOfNow();
        promise25NeedsNoTrees();
        promise26NoLinks();
        promise26OneLink();
        promise26OverAllItsLinks();
        promise26OverAllItsOtherLinks();
        promise26OnlyFromItsNextHop();
        promise26AllLinks();
        promise26FirstAndLastSource();
        promise26OutOfReach();
        promise26ChangesNothing();
        Check.end();
    }

    private static void promise25NoneAndAll() {
        Check.sentence(25, "Returns which members of a group a packet of a source would reach by flooding");
        Multidell net = Nets.made(Nets::longChain);
        Check.same("no members", 0, net.floodMembers(5, 0));
        int due = 0;
        for (int router = 0; router < 10; router++) {
            net.join(router, 0);
            due |= 1 << router;
            Check.same("one more", due, net.floodMembers(5, 0));
        }
    }

    private static void promise25FirstAndLastSourceAndGroup() {
        Check.sentence(25, "source: 0 to 9, group: 0 to 3");
        Multidell net = Nets.made(Nets::longChain);
        net.join(0, 3);
        net.join(9, 0);
        Check.same("the first to the last", Check.set(9), net.floodMembers(0, 0));
        Check.same("the last to the first", Check.set(0), net.floodMembers(9, 3));
        Check.same("the groups between", 0, net.floodMembers(0, 1) | net.floodMembers(9, 2));
    }

    private static void promise25TheSourceItself() {
        Check.sentence(25, "the source is among them if it is a member");
        Multidell net = Nets.made(Nets::chain);
        net.join(3, 0);
        Check.same("no member", Check.set(3), net.floodMembers(1, 0));
        net.join(1, 0);
        Check.same("a member", Check.set(1, 3), net.floodMembers(1, 0));
        net.join(8, 0);
        Check.same("a member without links", Check.set(8), net.floodMembers(8, 0));
        Check.same("no member, without links", 0, net.floodMembers(7, 0));
    }

    private static void promise25OutOfReach() {
        Check.sentence(25, "Returns which members of a group a packet .. would reach");
        Multidell net = Nets.made(Nets::longChain);
        for (int router = 0; router < 10; router++) {
            net.join(router, 1);
        }
        Check.same("all", 1023, net.floodMembers(9, 1));
        net.setLink(4, 5, 0);
        Check.same("the lower half", 31, net.floodMembers(4, 1));
        Check.same("the upper half", 992, net.floodMembers(5, 1));
        net.setLink(4, 5, 20);
        Check.same("all again", 1023, net.floodMembers(0, 1));
    }

    private static void promise25MembersOfNow() {
        Check.sentence(25, "Returns which members of a group");
        Multidell net = Nets.made(Nets::chain);
        net.join(2, 0);
        Nets.sendFollowed(net, 0, 0, 1);
        net.leave(2, 0);
        Check.same("left, its branch is leaving", 0, net.floodMembers(0, 0));
        net.join(2, 0);
        Check.same("again", Check.set(2), net.floodMembers(0, 0));
    }

    private static void promise25NeedsNoTrees() {
        Check.sentence(25, "the source sends it over all its links");
        Multidell net = Nets.made(Nets::chain);
        net.join(3, 0);
        net.setCandidate(0, false);
        Check.same("without a rendezvous point", Check.set(3), net.floodMembers(0, 0));
        net.setCandidate(9, true);
        Check.same("with one that is out of reach", Check.set(3), net.floodMembers(0, 0));
    }

    private static void promise26NoLinks() {
        Check.sentence(26, "Returns how many copies such flooding makes");
        Multidell net = new Multidell();
        Check.same("none", 0, net.floodCopies(0));
        net.setLink(0, 1, 1);
        net.setLink(0, 1, 0);
        Check.same("none any more", 0, net.floodCopies(0) + net.floodCopies(1));
    }

    private static void promise26OneLink() {
        Check.sentence(26, "sends it over all its other links");
        Multidell net = new Multidell();
        net.setLink(0, 9, 20);
        Check.same("one, and none back", 1, net.floodCopies(0));
        Check.same("the other way", 1, net.floodCopies(9));
        Check.same("who has none", 0, net.floodCopies(5));
    }

    private static void promise26OverAllItsLinks() {
        Check.sentence(26, "the source sends it over all its links");
        Multidell net = Nets.made(Nets::star);
        Check.same("from the midst", 9, net.floodCopies(0));
        Check.same("one, and then eight", 9, net.floodCopies(9));
    }

    private static void promise26OverAllItsOtherLinks() {
        Check.sentence(26, "each router that gets it .. sends it over all its other links");
        Multidell net = Nets.made(Nets::longChain);
        Check.same("nine steps", 9, net.floodCopies(0));
        Check.same("two ways", 9, net.floodCopies(4));
        net.setLink(0, 9, 20);
        Check.same("two ways, that meet: once more each", 11, net.floodCopies(4));
        Check.same("from everywhere", 11, net.floodCopies(0));
    }

    private static void promise26OnlyFromItsNextHop() {
        Check.sentence(26, "each router that gets it from its next hop to the source");
        Multidell net = new Multidell();
        net.setLink(0, 1, 1);
        net.setLink(0, 2, 1);
        net.setLink(1, 3, 1);
        net.setLink(2, 3, 1);
        net.setLink(3, 4, 1);
        Check.same("3 sends on what comes from 1, to 2 and 4", 2 + 1 + 1 + 2, net.floodCopies(0));
        net.setLink(0, 3, 20);
        Check.same("nor what comes straight, but back over that link", 3 + 1 + 1 + 3, net.floodCopies(0));
    }

    private static void promise26AllLinks() {
        Check.sentence(26, "Returns how many copies such flooding makes");
        Multidell net = Nets.made(Nets::mesh);
        for (int source = 0; source < 10; source++) {
            Check.same("9 of the source, 8 of each other", 81, net.floodCopies(source));
        }
        net.setLink(8, 9, 0);
        Check.same("one link less, both ends send one less", 79, net.floodCopies(0));
    }

    private static void promise26FirstAndLastSource() {
        Check.sentence(26, "source: 0 to 9");
        Multidell net = Nets.made(Nets::longChain);
        net.setLink(0, 2, 20);
        Check.same("the first, with two links", 2 + 1 + 2 + 6, net.floodCopies(0));
        Check.same("the last, with one", 1 + 6 + 2 + 1 + 1, net.floodCopies(9));
    }

    private static void promise26OutOfReach() {
        Check.sentence(26, "Returns how many copies such flooding makes");
        Multidell net = Nets.made(Nets::longChain);
        net.setLink(2, 3, 0);
        Check.same("the small part", 2, net.floodCopies(1));
        Check.same("the large part", 6, net.floodCopies(9));
    }

    private static void promise26ChangesNothing() {
        Check.sentence(26, "flooding, the second way");
        Multidell net = Nets.made(Nets::full);
        Check.same("more than 200 are no matter", 3, net.floodCopies(0));
        Check.same("nor is a full queue", Check.set(2, 3), net.floodMembers(0, 0));
        Check.same("as before", 200, net.queued());
        Check.same("nothing is wasted", 0, net.wasted());
        Check.same("nobody received", 0, net.received(0));
    }
}
