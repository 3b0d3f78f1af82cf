/** Promises 25 and 26: floodMembers and floodCopies. */
public final class FloodTest {
    private FloodTest() {
    }

    public static void main(String[] args) {
        promise25FloodMembers();
        promise26FloodCopies();
        promise26FloodCopiesInAMesh();
        Check.end();
    }

    private static void promise25FloodMembers() {
        Multidell net = Nets.made(Nets::chain);
        net.setLink(8, 9, 3);
        net.join(0, 0);
        net.join(3, 0);
        net.join(9, 0);
        net.join(1, 1);
        Check.same("the source too", Check.set(0, 3), net.floodMembers(0, 0));
        Check.same("a source that is no member", Check.set(0, 3), net.floodMembers(2, 0));
        Check.same("the other part", Check.set(9), net.floodMembers(8, 0));
        Check.same("another group", Check.set(1), net.floodMembers(3, 1));
        Check.same("without links, a member", 0, net.floodMembers(7, 0));
        net.join(7, 0);
        Check.same("without links, a member", Check.set(7), net.floodMembers(7, 0));
        net.setCandidate(0, false);
        Check.same("no rendezvous point is needed", Check.set(0, 3), net.floodMembers(1, 0));
        net.leave(3, 0);
        Check.same("members of now", Check.set(0), net.floodMembers(1, 0));
        Check.same("nothing is queued", 0, net.queued());
    }

    private static void promise26FloodCopies() {
        Multidell net = Nets.made(Nets::chain);
        net.setLink(8, 9, 3);
        Check.same("from one end", 3, net.floodCopies(0));
        Check.same("from the midst", 3, net.floodCopies(1));
        Check.same("the other part", 1, net.floodCopies(9));
        Check.same("without links", 0, net.floodCopies(7));
        net.setLink(0, 3, 1);
        Check.same("a ring: both ways, and twice over the last link", 5, net.floodCopies(0));
        net.setLink(0, 3, 20);
        Check.same("a dear link: sent on by both", 5, net.floodCopies(0));
        Check.same("nothing is queued or wasted", 0, net.queued() + net.wasted());
    }

    private static void promise26FloodCopiesInAMesh() {
        Multidell net = new Multidell();
        for (int router = 0; router < 10; router++) {
            for (int other = 0; other < router; other++) {
                net.setLink(router, other, 1 + (router * 7 + other * 3) % 20);
            }
        }
        for (int source = 0; source < 10; source++) {
            Check.same("all links both ways, less one each for the nine", 81, net.floodCopies(source));
        }
    }
}
