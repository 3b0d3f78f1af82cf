/** The questions that can be put to a network without changing it, and what is left of its queue. */
final class Question {
    private static final String[] NAMES = {"links' state", "rendezvous points", "members", "switched",
        "branches", "source branches", "the queue", "packets", "time", "flooding", "later packets"};

    private Question() {
    }

    static int count() {
        return NAMES.length;
    }

    static String name(int question) {
        return NAMES[question];
    }

    static String ask(Multidell net, int question) {
        StringBuilder told = new StringBuilder();
        switch (question) {
            case 0 -> links(net, told);
            case 1 -> rendezvous(net, told);
            case 2 -> members(net, told);
            case 3 -> switchedOnes(net, told);
            case 4 -> branches(net, told);
            case 5 -> sourceBranches(net, told);
            case 6 -> queue(net, told);
            case 7 -> packets(net, told);
            case 8 -> time(net, told);
            case 9 -> flooding(net, told);
            default -> laterPackets(net, told);
        }
        return told.toString();
    }

    private static void links(Multidell net, StringBuilder told) {
        for (int router = 0; router < 10; router++) {
            for (int other = 0; other < 10; other++) {
                told.append(net.distance(router, other)).append('/');
                told.append(net.nextHop(router, other)).append(' ');
            }
        }
        told.append(net.setLimit(3));
    }

    private static void rendezvous(Multidell net, StringBuilder told) {
        for (int group = 0; group < 4; group++) {
            told.append(net.rendezvous(group)).append(' ');
        }
        for (int router = 0; router < 10; router++) {
            told.append(net.setCandidate(router, true)).append(' ');
        }
    }

    private static void members(Multidell net, StringBuilder told) {
        for (int group = 0; group < 4; group++) {
            told.append(net.members(group)).append(' ');
        }
    }

    private static void switchedOnes(Multidell net, StringBuilder told) {
        for (int source = 0; source < 10; source++) {
            for (int group = 0; group < 4; group++) {
                told.append(net.switched(source, group)).append(' ');
            }
        }
    }

    private static void branches(Multidell net, StringBuilder told) {
        for (int router = 0; router < 10; router++) {
            for (int group = 0; group < 4; group++) {
                told.append(net.branches(router, group)).append(' ');
            }
        }
        told.append(net.leaving());
    }

    private static void sourceBranches(Multidell net, StringBuilder told) {
        for (int router = 0; router < 10; router++) {
            for (int source = 0; source < 10; source++) {
                for (int group = 0; group < 4; group++) {
                    told.append(net.sourceBranches(router, source, group)).append(' ');
                }
            }
        }
    }

    private static void queue(Multidell net, StringBuilder told) {
        told.append(net.queued()).append(' ').append(net.wasted()).append(' ');
        for (int step = 0; step < 40; step++) {
            told.append(net.nextTo()).append('/').append(net.follow()).append(' ');
        }
        told.append(net.followAll()).append(' ').append(net.wasted());
    }

    private static void packets(Multidell net, StringBuilder told) {
        int sent = net.send(0, 0);
        told.append(sent);
        for (int packet = 0; packet < sent && packet < 150; packet++) {
            told.append(' ').append(net.received(packet)).append('/').append(net.doubles(packet));
        }
    }

    private static void time(Multidell net, StringBuilder told) {
        told.append(net.clock());
        for (int second = 0; second < 20; second++) {
            told.append(' ').append(net.pass(1)).append('/').append(net.leaving());
        }
    }

    private static void flooding(Multidell net, StringBuilder told) {
        for (int source = 0; source < 10; source++) {
            told.append(net.floodCopies(source)).append(' ');
            for (int group = 0; group < 4; group++) {
                told.append(net.floodMembers(source, group)).append(' ');
            }
        }
    }

    // What a member counts, and the limit, show only in whether it switches later on.
    private static void laterPackets(Multidell net, StringBuilder told) {
        for (int group = 0; group < 4; group++) {
            for (int source = 0; source < 10; source++) {
                told.append(net.send(source, group)).append('/').append(net.followAll()).append('/');
                told.append(net.switched(source, group)).append(' ');
            }
        }
    }
}
