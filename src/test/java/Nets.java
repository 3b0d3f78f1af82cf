/** Networks that several tests begin with. */
final class Nets {
    private Nets() {
    }

    /** Links, members, switched members, leaving branches, packets, copies on their way, all at once. */
    static void lively(Multidell net) {
        net.setLink(0, 1, 1);
        net.setLink(1, 2, 1);
        net.setLink(1, 3, 2);
        net.setLink(3, 4, 1);
        net.setLink(2, 4, 2);
        net.setLink(0, 5, 3);
        net.setLink(6, 7, 4);
        net.setCandidate(0, true);
        net.setCandidate(6, true);
        net.setCandidate(0, false);
        net.setCandidate(0, true);
        net.setCandidate(6, false);
        net.join(2, 0);
        net.join(4, 0);
        net.join(5, 0);
        net.join(3, 1);
        net.setLimit(2);
        for (int packet = 0; packet < 2; packet++) {
            net.send(5, 0);
            net.followAll();
        }
        net.leave(4, 0);
        net.pass(1);
        net.leave(3, 1);
        net.setLimit(3);
        net.send(1, 0);
        net.send(1, 0);
        net.followAll();
        net.send(5, 0);
        net.follow();
        net.send(0, 0);
    }

    /** A chain 0 - 1 - 2 - 3 with costs of 1; the router 0 is the rendezvous point of all groups. */
    static void chain(Multidell net) {
        net.setLink(0, 1, 1);
        net.setLink(1, 2, 1);
        net.setLink(2, 3, 1);
        net.setCandidate(0, true);
    }

    /** The router 0 in the midst of all others, and the rendezvous point; all are members of group 0. */
    static void star(Multidell net) {
        net.setCandidate(0, true);
        for (int router = 1; router < 10; router++) {
            net.setLink(0, router, 1);
        }
        for (int router = 0; router < 10; router++) {
            net.join(router, 0);
        }
    }
}
