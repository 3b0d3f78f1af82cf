import java.util.function.Consumer;

/** Networks that several tests begin with. */
final class Nets {
    private Nets() {
    }

    static Multidell made(Consumer<Multidell> making) {
        Multidell net = new Multidell();
        making.accept(net);
        return net;
    }

    /** Links, members, switched members, leaving branches, packets, copies on their way, all at once. */
    static void lively(Multidell net) {
        net.setLink(0, 1, 1);
        net.setLink(1, 2, 1);
        net.setLink(1, 3, 2);
        net.setLink(3, 4, 1);
        net.setLink(2, 4, 2);
        net.setLink(0, 5, 3);
        net.setLink(6, 7, 4);
        net.setCandidate(0, true);
        net.setCandidate(6, true);
        net.setCandidate(0, false);
        net.setCandidate(0, true);
        net.setCandidate(6, false);
        net.join(2, 0);
        net.join(4, 0);
        net.join(5, 0);
        net.join(3, 1);
        net.setLimit(2);
        sendFollowed(net, 5, 0, 2);
        net.leave(4, 0);
        net.pass(1);
        net.leave(3, 1);
        net.setLimit(3);
        net.send(1, 0);
        net.send(1, 0);
        net.followAll();
        net.send(5, 0);
        net.follow();
        net.send(0, 0);
    }

    /** A chain 0 - 1 - 2 - 3 with costs of 1; the router 0 is the rendezvous point of all groups. */
    static void chain(Multidell net) {
        net.setLink(0, 1, 1);
        net.setLink(1, 2, 1);
        net.setLink(2, 3, 1);
        net.setCandidate(0, true);
    }

    /** A chain through all routers with costs of 20; the router 0 is the rendezvous point. */
    static void longChain(Multidell net) {
        for (int router = 0; router < 9; router++) {
            net.setLink(router, router + 1, 20);
        }
        net.setCandidate(0, true);
    }

    /** From the router 0, the rendezvous point, to the router 1, and from there to 2 and to 3. */
    static void fork(Multidell net) {
        net.setLink(0, 1, 1);
        net.setLink(1, 2, 1);
        net.setLink(1, 3, 1);
        net.setCandidate(0, true);
    }

    /** The router 0 in the midst of all others, and the rendezvous point; all are members of group 0. */
    static void star(Multidell net) {
        net.setCandidate(0, true);
        for (int router = 1; router < 10; router++) {
            net.setLink(0, router, 1);
        }
        for (int router = 0; router < 10; router++) {
            net.join(router, 0);
        }
    }

    /** All routers linked with one another. */
    static void mesh(Multidell net) {
        for (int router = 0; router < 10; router++) {
            for (int other = 0; other < router; other++) {
                net.setLink(router, other, 1 + (router * 7 + other * 3) % 20);
            }
        }
    }

    /** The fork with the members 2 and 3, all 200 packets sent: 200 copies are on their way to 1. */
    static void full(Multidell net) {
        fork(net);
        net.join(2, 0);
        net.join(3, 0);
        for (int packet = 0; packet < 200; packet++) {
            net.send(0, 0);
        }
    }

    /** Two routers, the first the root of a shared and a source tree, both with the member's branch. */
    static Multidell oneBranchInBothTrees(int root, int member, int group) {
        Multidell net = new Multidell();
        net.setLimit(1);
        net.setLink(root, member, 1);
        net.setCandidate(root, true);
        net.join(member, group);
        sendFollowed(net, root, group, 1);
        return net;
    }

    static void sendFollowed(Multidell net, int source, int group, int packets) {
        for (int packet = 0; packet < packets; packet++) {
            net.send(source, group);
            net.followAll();
        }
    }
}
