import java.util.function.Consumer;

/**
 * What the throws clauses of promises 2 to 26 say: which call is refused, by which exception, which one
 * comes first, and ("Terms") that "A call that throws an exception changes nothing". Each call is tried
 * on a new object, on one where much is going on, and on one whose packets are all sent.
 */
public final class RefusalsTest {
    private static final Class<? extends RuntimeException> INDEX = IndexOutOfBoundsException.class;
    private static final Class<? extends RuntimeException> ARGUMENT = IllegalArgumentException.class;
    private static final Class<? extends RuntimeException> STATE = IllegalStateException.class;

    private static final int[] NO_ROUTERS = {-1, 10, Integer.MIN_VALUE, Integer.MAX_VALUE};
    private static final int[] NO_GROUPS = {-1, 4, Integer.MIN_VALUE, Integer.MAX_VALUE};
    private static final int[] TOO_SMALL = {0, -1, Integer.MIN_VALUE};
    private static final int[] ABOVE_100 = {101, Integer.MAX_VALUE};

    private static final State FRESH = new State("new", net -> { });
    private static final State LIVELY = new State("lively", Nets::lively);
    private static final State FULL = new State("200 packets and 200 copies", Nets::full);
    private static final State SPENT = new State("200 packets, all followed", net -> {
        Nets.full(net);
        net.followAll();
    });

    private RefusalsTest() {
    }

    public static void main(String[] args) {
        promise2NoSuchRouterOrOther();
        promise2BothAreTheSame();
        promise2CostIsOutOfRange();
        promise2IndexBeforeArgument();
        promise3NoSuchRouter();
        promise4LimitIsOutOfRange();
        promise5NoSuchRouterOrOther();
        promise6NoSuchRouterOrOther();
        promise7NoSuchGroup();
        promise8NoSuchRouterOrGroup();
        promise8IsAMember();
        promise9NoSuchRouterOrGroup();
        promise9IsNoMember();
        promise9IndexBeforeState();
        promise10NoSuchGroup();
        promise11NoSuchSourceOrGroup();
        promise12NoSuchRouterOrGroup();
        promise13NoSuchRouterSourceOrGroup();
        promise15NoSuchSourceOrGroup();
        promise15AllPacketsWereSent();
        promise15IndexBeforeState();
        promise15RefusedSendTakesNoNumber();
        promise20NoSuchPacket();
        promise21NoSuchPacket();
        promise23SecondsAreOutOfRange();
        promise25NoSuchSourceOrGroup();
        promise26NoSuchSource();
        Check.end();
    }

    private static void refused(String call, Class<? extends RuntimeException> due,
            Consumer<Multidell> refused) {
        FRESH.refuses(call, due, refused);
        LIVELY.refuses(call, due, refused);
        FULL.refuses(call, due, refused);
    }

    private static void promise2NoSuchRouterOrOther() {
        Check.sentence(2, "Throws IndexOutOfBoundsException if there is no such router or other");
        for (int none : NO_ROUTERS) {
            refused("setLink, router " + none, INDEX, net -> net.setLink(none, 1, 1));
            refused("setLink, other " + none, INDEX, net -> net.setLink(1, none, 1));
        }
    }

    private static void promise2BothAreTheSame() {
        Check.sentence(2, "Throws IllegalArgumentException if both are the same");
        for (int router = 0; router < 10; router += 3) {
            int same = router;
            refused("setLink, twice " + same, ARGUMENT, net -> net.setLink(same, same, 1));
            refused("setLink to 0, twice " + same, ARGUMENT, net -> net.setLink(same, same, 0));
        }
    }

    private static void promise2CostIsOutOfRange() {
        Check.sentence(2, "Throws IllegalArgumentException if .. cost is out of range");
        for (int cost : new int[] {-1, 21, Integer.MIN_VALUE, Integer.MAX_VALUE}) {
            refused("setLink, a cost of " + cost, ARGUMENT, net -> net.setLink(0, 1, cost));
            refused("setLink, a new link's cost of " + cost, ARGUMENT, net -> net.setLink(8, 9, cost));
        }
    }

    private static void promise2IndexBeforeArgument() {
        Check.sentence(2, "the one that its throws clause names first is thrown");
        for (int none : NO_ROUTERS) {
            refused("setLink, twice " + none, INDEX, net -> net.setLink(none, none, 1));
            refused("setLink, router and cost", INDEX, net -> net.setLink(none, 0, 21));
            refused("setLink, other and cost", INDEX, net -> net.setLink(0, none, -1));
            refused("setLink, all of it", INDEX, net -> net.setLink(none, none, none));
        }
    }

    private static void promise3NoSuchRouter() {
        Check.sentence(3, "Throws IndexOutOfBoundsException if there is no such router");
        for (int none : NO_ROUTERS) {
            refused("setCandidate to true, " + none, INDEX, net -> net.setCandidate(none, true));
            refused("setCandidate to false, " + none, INDEX, net -> net.setCandidate(none, false));
        }
    }

    private static void promise4LimitIsOutOfRange() {
        Check.sentence(4, "Throws IllegalArgumentException if limit is out of range");
        for (int limit : TOO_SMALL) {
            refused("setLimit, " + limit, ARGUMENT, net -> net.setLimit(limit));
        }
        for (int limit : ABOVE_100) {
            refused("setLimit, " + limit, ARGUMENT, net -> net.setLimit(limit));
        }
    }

    private static void promise5NoSuchRouterOrOther() {
        Check.sentence(5, "Throws IndexOutOfBoundsException if there is no such router or other");
        for (int none : NO_ROUTERS) {
            refused("distance, router " + none, INDEX, net -> net.distance(none, 0));
            refused("distance, other " + none, INDEX, net -> net.distance(0, none));
            refused("distance, twice " + none, INDEX, net -> net.distance(none, none));
        }
    }

    private static void promise6NoSuchRouterOrOther() {
        Check.sentence(6, "Throws IndexOutOfBoundsException if there is no such router or other");
        for (int none : NO_ROUTERS) {
            refused("nextHop, router " + none, INDEX, net -> net.nextHop(none, 0));
            refused("nextHop, other " + none, INDEX, net -> net.nextHop(0, none));
            refused("nextHop, twice " + none, INDEX, net -> net.nextHop(none, none));
        }
    }

    private static void promise7NoSuchGroup() {
        Check.sentence(7, "Throws IndexOutOfBoundsException if there is no such group");
        for (int none : NO_GROUPS) {
            refused("rendezvous, " + none, INDEX, net -> net.rendezvous(none));
        }
    }

    private static void promise8NoSuchRouterOrGroup() {
        Check.sentence(8, "Throws IndexOutOfBoundsException if there is no such router or group");
        for (int none : NO_ROUTERS) {
            refused("join, router " + none, INDEX, net -> net.join(none, 0));
        }
        for (int none : NO_GROUPS) {
            refused("join, group " + none, INDEX, net -> net.join(2, none));
            refused("join, neither", INDEX, net -> net.join(-1, none));
        }
    }

    private static void promise8IsAMember() {
        Check.sentence(8, "Throws IllegalStateException if it is a member");
        LIVELY.refuses("join, a member that switched", STATE, net -> net.join(2, 0));
        LIVELY.refuses("join, a member that is a source", STATE, net -> net.join(5, 0));
        FULL.refuses("join, a member", STATE, net -> net.join(3, 0));
        new State("an unreached member", RefusalsTest::unreachedMember)
                .refuses("join, a member that is not reached", STATE, net -> net.join(9, 3));
    }

    private static void unreachedMember(Multidell net) {
        Nets.chain(net);
        net.join(9, 3);
        net.join(3, 3);
        net.leave(3, 3);
    }

    private static void promise9NoSuchRouterOrGroup() {
        Check.sentence(9, "Throws IndexOutOfBoundsException if there is no such router or group");
        for (int none : NO_GROUPS) {
            refused("leave, group " + none, INDEX, net -> net.leave(2, none));
        }
    }

    private static void promise9IsNoMember() {
        Check.sentence(9, "Throws IllegalStateException if it is no member");
        FRESH.refuses("leave, no members at all", STATE, net -> net.leave(0, 0));
        LIVELY.refuses("leave, it has left already", STATE, net -> net.leave(4, 0));
        LIVELY.refuses("leave, a member of another group", STATE, net -> net.leave(2, 1));
        LIVELY.refuses("leave, the root, no member", STATE, net -> net.leave(0, 0));
        FULL.refuses("leave, on the way to members", STATE, net -> net.leave(1, 0));
    }

    private static void promise9IndexBeforeState() {
        Check.sentence(9, "the one that its throws clause names first is thrown");
        for (int none : NO_ROUTERS) {
            refused("leave, router " + none + ", which is no member either", INDEX,
                    net -> net.leave(none, 0));
            refused("leave, neither", INDEX, net -> net.leave(none, 4));
        }
    }

    private static void promise10NoSuchGroup() {
        Check.sentence(10, "Throws IndexOutOfBoundsException if there is no such group");
        for (int none : NO_GROUPS) {
            refused("members, " + none, INDEX, net -> net.members(none));
        }
    }

    private static void promise11NoSuchSourceOrGroup() {
        Check.sentence(11, "Throws IndexOutOfBoundsException if there is no such source or group");
        for (int none : NO_ROUTERS) {
            refused("switched, source " + none, INDEX, net -> net.switched(none, 0));
        }
        for (int none : NO_GROUPS) {
            refused("switched, group " + none, INDEX, net -> net.switched(0, none));
        }
    }

    private static void promise12NoSuchRouterOrGroup() {
        Check.sentence(12, "Throws IndexOutOfBoundsException if there is no such router or group");
        for (int none : NO_ROUTERS) {
            refused("branches, router " + none, INDEX, net -> net.branches(none, 0));
        }
        for (int none : NO_GROUPS) {
            refused("branches, group " + none, INDEX, net -> net.branches(0, none));
        }
    }

    private static void promise13NoSuchRouterSourceOrGroup() {
        Check.sentence(13, "Throws IndexOutOfBoundsException if there is no such router, source or group");
        for (int none : NO_ROUTERS) {
            refused("sourceBranches, router " + none, INDEX, net -> net.sourceBranches(none, 0, 0));
            refused("sourceBranches, source " + none, INDEX, net -> net.sourceBranches(0, none, 0));
        }
        for (int none : NO_GROUPS) {
            refused("sourceBranches, group " + none, INDEX, net -> net.sourceBranches(0, 0, none));
        }
    }

    private static void promise15NoSuchSourceOrGroup() {
        Check.sentence(15, "Throws IndexOutOfBoundsException if there is no such source or group");
        for (int none : NO_ROUTERS) {
            FRESH.refuses("send, source " + none, INDEX, net -> net.send(none, 0));
            LIVELY.refuses("send, source " + none, INDEX, net -> net.send(none, 0));
        }
        for (int none : NO_GROUPS) {
            FRESH.refuses("send, group " + none, INDEX, net -> net.send(0, none));
            LIVELY.refuses("send, group " + none, INDEX, net -> net.send(5, none));
        }
    }

    private static void promise15AllPacketsWereSent() {
        Check.sentence(15, "Throws IllegalStateException if 200 packets were sent");
        FULL.refuses("send, the root", STATE, net -> net.send(0, 0));
        FULL.refuses("send, a member", STATE, net -> net.send(2, 0));
        SPENT.refuses("send, the root", STATE, net -> net.send(0, 0));
        SPENT.refuses("send, a member", STATE, net -> net.send(2, 0));
        SPENT.refuses("send, to another group", STATE, net -> net.send(9, 3));
    }

    private static void promise15IndexBeforeState() {
        Check.sentence(15, "the one that its throws clause names first is thrown");
        for (int none : NO_ROUTERS) {
            FULL.refuses("send, source " + none, INDEX, net -> net.send(none, 0));
            SPENT.refuses("send, neither", INDEX, net -> net.send(none, 4));
        }
        for (int none : NO_GROUPS) {
            FULL.refuses("send, group " + none, INDEX, net -> net.send(0, none));
        }
    }

    private static void promise15RefusedSendTakesNoNumber() {
        Check.sentence(15, "A call that throws an exception changes nothing");
        Multidell net = new Multidell();
        Check.same("the first number", 0, net.send(0, 0));
        Check.throwing("send, source 10", INDEX, () -> net.send(10, 0));
        Check.throwing("send, group 4", INDEX, () -> net.send(0, 4));
        Check.same("the next number", 1, net.send(0, 0));
    }

    private static void promise20NoSuchPacket() {
        Check.sentence(20, "Throws IndexOutOfBoundsException if there is no such packet");
        for (int none : new int[] {-1, 200, Integer.MIN_VALUE, Integer.MAX_VALUE}) {
            refused("received, " + none, INDEX, net -> net.received(none));
        }
        FRESH.refuses("received, none sent", INDEX, net -> net.received(0));
        LIVELY.refuses("received, six sent", INDEX, net -> net.received(6));
        LIVELY.refuses("received, six sent", INDEX, net -> net.received(199));
    }

    private static void promise21NoSuchPacket() {
        Check.sentence(21, "Throws IndexOutOfBoundsException if there is no such packet");
        for (int none : new int[] {-1, 200, Integer.MIN_VALUE, Integer.MAX_VALUE}) {
            refused("doubles, " + none, INDEX, net -> net.doubles(none));
        }
        FRESH.refuses("doubles, none sent", INDEX, net -> net.doubles(0));
        LIVELY.refuses("doubles, six sent", INDEX, net -> net.doubles(6));
        LIVELY.refuses("doubles, six sent", INDEX, net -> net.doubles(199));
    }

    private static void promise23SecondsAreOutOfRange() {
        Check.sentence(23, "Throws IllegalArgumentException if seconds is out of range");
        for (int seconds : TOO_SMALL) {
            refused("pass, " + seconds, ARGUMENT, net -> net.pass(seconds));
        }
        for (int seconds : ABOVE_100) {
            refused("pass, " + seconds, ARGUMENT, net -> net.pass(seconds));
        }
    }

    private static void promise25NoSuchSourceOrGroup() {
        Check.sentence(25, "Throws IndexOutOfBoundsException if there is no such source or group");
        for (int none : NO_ROUTERS) {
            refused("floodMembers, source " + none, INDEX, net -> net.floodMembers(none, 0));
        }
        for (int none : NO_GROUPS) {
            refused("floodMembers, group " + none, INDEX, net -> net.floodMembers(0, none));
        }
    }

    private static void promise26NoSuchSource() {
        Check.sentence(26, "Throws IndexOutOfBoundsException if there is no such source");
        for (int none : NO_ROUTERS) {
            refused("floodCopies, " + none, INDEX, net -> net.floodCopies(none));
        }
    }
}
