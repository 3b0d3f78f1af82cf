import java.util.function.IntUnaryOperator;

/** The questions that tell two states of a network apart; asking may change the network that is asked. */
final class Question {
    private static final String[] NAMES = {"distances and next hops", "the costs of links",
        "the limit and the candidates", "rendezvous points", "members", "switched", "branches",
        "source branches of group 0", "source branches of group 1", "source branches of group 2",
        "source branches of group 3", "the queue", "received", "doubles", "time", "flooding",
        "later packets"};

    private Question() {
    }

    static int count() {
        return NAMES.length;
    }

    static String name(int question) {
        return NAMES[question];
    }

    static String ask(Multidell net, int question) {
        StringBuilder told = new StringBuilder();
        switch (question) {
            case 0 -> routes(net, told);
            case 1 -> costs(net, told);
            case 2 -> limitAndCandidates(net, told);
            case 3 -> rendezvous(net, told);
            case 4 -> members(net, told);
            case 5 -> switchedOnes(net, told);
            case 6 -> branches(net, told);
            case 7, 8, 9, 10 -> sourceBranches(net, question - 7, told);
            case 11 -> queue(net, told);
            case 12 -> ofEachPacket(net::received, told);
            case 13 -> ofEachPacket(net::doubles, told);
            case 14 -> time(net, told);
            case 15 -> flooding(net, told);
            default -> laterPackets(net, told);
        }
        return told.toString();
    }

    private static void routes(Multidell net, StringBuilder told) {
        for (int router = 0; router < 10; router++) {
            for (int other = 0; other < 10; other++) {
                told.append(net.distance(router, other)).append('/');
                told.append(net.nextHop(router, other)).append(' ');
            }
        }
    }

    private static void costs(Multidell net, StringBuilder told) {
        for (int router = 0; router < 10; router++) {
            for (int other = 0; other < router; other++) {
                told.append(net.setLink(router, other, 0)).append(' ');
            }
        }
    }

    private static void limitAndCandidates(Multidell net, StringBuilder told) {
        told.append(net.setLimit(3));
        for (int router = 0; router < 10; router++) {
            told.append(' ').append(net.setCandidate(router, true));
        }
    }

    private static void rendezvous(Multidell net, StringBuilder told) {
        for (int group = 0; group < 4; group++) {
            told.append(net.rendezvous(group)).append(' ');
        }
    }

    private static void members(Multidell net, StringBuilder told) {
        for (int group = 0; group < 4; group++) {
            told.append(net.members(group)).append(' ');
        }
    }

    private static void switchedOnes(Multidell net, StringBuilder told) {
        for (int source = 0; source < 10; source++) {
            for (int group = 0; group < 4; group++) {
                told.append(net.switched(source, group)).append(' ');
            }
        }
    }

    private static void branches(Multidell net, StringBuilder told) {
        for (int router = 0; router < 10; router++) {
            for (int group = 0; group < 4; group++) {
                told.append(net.branches(router, group)).append(' ');
            }
        }
        told.append(net.leaving());
    }

    private static void sourceBranches(Multidell net, int group, StringBuilder told) {
        for (int router = 0; router < 10; router++) {
            for (int source = 0; source < 10; source++) {
                told.append(net.sourceBranches(router, source, group)).append(' ');
            }
        }
    }

    private static void queue(Multidell net, StringBuilder told) {
        told.append(net.queued()).append(' ').append(net.wasted()).append(' ');
        for (int step = 0; step < 40; step++) {
            told.append(net.nextTo()).append('/').append(net.follow()).append(' ');
        }
        told.append(net.followAll()).append(' ').append(net.wasted());
    }

    private static void ofEachPacket(IntUnaryOperator asking, StringBuilder told) {
        for (int packet = 0; packet <= 200; packet++) {
            int asked = packet;
            String thrown = Check.nameOfThrown(() -> told.append(asking.applyAsInt(asked)));
            told.append(thrown.equals("nothing") ? " " : "none ");
        }
    }

    private static void time(Multidell net, StringBuilder told) {
        told.append(net.clock());
        for (int second = 0; second < 20; second++) {
            told.append(' ').append(net.pass(1)).append('/').append(net.leaving());
        }
    }

    private static void flooding(Multidell net, StringBuilder told) {
        for (int source = 0; source < 10; source++) {
            told.append(net.floodCopies(source)).append(' ');
            for (int group = 0; group < 4; group++) {
                told.append(net.floodMembers(source, group)).append(' ');
            }
        }
    }

    // What a member counts shows only in whether it switches later on.
    private static void laterPackets(Multidell net, StringBuilder told) {
        for (int group = 0; group < 4; group++) {
            for (int source = 0; source < 10; source++) {
                int itsSource = source;
                int itsGroup = group;
                told.append(Check.nameOfThrown(() -> told.append(net.send(itsSource, itsGroup))));
                told.append('/').append(net.followAll()).append('/');
                told.append(net.switched(source, group)).append(' ');
            }
        }
    }
}
