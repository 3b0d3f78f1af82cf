/**
 * Promises 23 and 24: a test for each sentence of the document that names an edge of seconds, of spans
 * of 10 seconds and of branches that go. What is refused is in RefusalsTest.
 */
public final class TimeEdgesTest {
    private TimeEdgesTest() {
    }

    public static void main(String[] args) {
        promise23LeastAndMostSeconds();
        promise23NoneGoes();
        promise23OneAfterTheOther();
        promise23TheLongestTree();
        promise23InSecondsOneByOneOrAtOnce();
        promise23EachFromItsOwnSecond();
        promise23InAllTrees();
        promise23NotByBuildingAnew();
        promise23FirstSpan();
        promise23SecondSpan();
        promise23SpanThatWasPassedOver();
        promise23TenSecondsFromWithinASpan();
        promise23AllSpansBeginAtTens();
        promise23SpanOfAllCounts();
        promise23SwitchedStays();
        promise23CopiesWait();
        promise24FromZeroOn();
        promise24TheMostSeconds();
        Check.end();
    }

    private static void promise23LeastAndMostSeconds() {
        Check.sentence(23, "seconds: 1 to 100");
        Multidell net = new Multidell();
        net.pass(1);
        Check.same("one", 1, net.clock());
        net.pass(100);
        Check.same("a hundred more", 101, net.clock());
        net.pass(99);
        net.pass(2);
        Check.same("the ones next to them", 202, net.clock());
    }

    private static void promise23NoneGoes() {
        Check.sentence(23, "Returns how many branches go");
        Multidell net = Nets.made(Nets::chain);
        Check.same("no branches", 0, net.pass(100));
        net.join(3, 0);
        Check.same("wanted ones", 0, net.pass(100));
        net.leave(3, 0);
        Check.same("one leaves, none goes", 0, net.pass(2));
        Check.same("one goes, one leaves", 1, net.pass(1));
    }

    private static void promise23OneAfterTheOther() {
        Check.sentence(23, "When a router is no longer needed .., this branch is leaving from then on");
        Multidell net = Nets.made(Nets::chain);
        net.join(3, 0);
        net.leave(3, 0);
        Check.same("eight seconds: at 3 and at 6", 2, net.pass(8));
        Check.same("the next is leaving since 6", 1, net.leaving());
        Check.same("at 9", 1, net.pass(1));
        Check.same("none left", 0, net.leaving());
    }

    private static void promise23TheLongestTree() {
        Check.sentence(23, "it goes 3 seconds later");
        Multidell net = Nets.made(Nets::longChain);
        net.join(9, 0);
        net.leave(9, 0);
        Check.same("26 seconds", 8, net.pass(26));
        Check.same("27 seconds", 1, net.pass(1));
        net.join(9, 0);
        net.leave(9, 0);
        Check.same("all at once", 9, net.pass(27));
        net.join(9, 0);
        net.leave(9, 0);
        Check.same("all, and time to spare", 9, net.pass(100));
    }

    private static void promise23InSecondsOneByOneOrAtOnce() {
        Check.sentence(23, "Lets seconds pass");
        for (int seconds = 1; seconds <= 30; seconds++) {
            Multidell atOnce = Nets.made(Nets::longChain);
            atOnce.join(9, 0);
            atOnce.leave(9, 0);
            int due = seconds / 3 < 9 ? seconds / 3 : 9;
            Check.same("one each three seconds", due, atOnce.pass(seconds));
            Multidell oneByOne = Nets.made(Nets::longChain);
            oneByOne.join(9, 0);
            oneByOne.leave(9, 0);
            int gone = 0;
            for (int second = 0; second < seconds; second++) {
                gone += oneByOne.pass(1);
            }
            Check.same("one second at a time", due, gone);
            Check.same("leaving", atOnce.leaving(), oneByOne.leaving());
        }
    }

    private static void promise23EachFromItsOwnSecond() {
        Check.sentence(23, "from then on; it goes 3 seconds later");
        Multidell net = Nets.made(Nets::star);
        for (int router = 1; router < 10; router++) {
            net.leave(router, 0);
            Check.same("one goes each second from the third on", router < 3 ? 0 : 1, net.pass(1));
        }
        Check.same("two are left", 2, net.leaving());
        Check.same("they go", 1, net.pass(1));
        Check.same("they go", 1, net.pass(1));
    }

    private static void promise23InAllTrees() {
        Check.sentence(23, "Returns how many branches go");
        Multidell net = Nets.made(Nets::chain);
        net.setLimit(1);
        for (int group = 0; group < 4; group++) {
            net.join(1, group);
            Nets.sendFollowed(net, 0, group, 1);
            Nets.sendFollowed(net, 3, group, 1);
            net.leave(1, group);
        }
        Check.same("shared ones, those of 0 and those of 3", 12, net.leaving());
        Check.same("to 1, in each of them", 12, net.pass(3));
        Check.same("to 2, in those of 3", 4, net.pass(3));
        Check.same("that is all", 0, net.pass(100));
    }

    private static void promise23NotByBuildingAnew() {
        Check.sentence(23, "Returns how many branches go");
        Multidell net = Nets.made(Nets::chain);
        net.join(3, 0);
        net.leave(3, 0);
        net.pass(2);
        net.setLink(8, 9, 1);
        Check.same("they went when the trees were built anew", 0, net.pass(100));
        net.join(3, 0);
        net.leave(3, 0);
        net.pass(2);
        net.join(2, 0);
        net.setLink(8, 9, 2);
        Check.same("and none goes that is built anew", 0, net.pass(100));
        Check.same("to 2", Check.set(2), net.branches(1, 0));
    }

    /** The chain with the member 2, after so many seconds, and two packets of 1 that it has counted. */
    private static Multidell twoCountedAt(int second) {
        Multidell net = Nets.made(Nets::chain);
        net.join(2, 0);
        for (int passed = 0; passed < second; passed++) {
            net.pass(1);
        }
        Nets.sendFollowed(net, 1, 0, 2);
        Check.same("two are not three", 0, net.switched(1, 0));
        return net;
    }

    private static void oneMoreSwitches(String what, boolean due, Multidell net) {
        Nets.sendFollowed(net, 1, 0, 1);
        Check.same(what, due ? Check.set(2) : 0, net.switched(1, 0));
    }

    private static void promise23FirstSpan() {
        Check.sentence(23, "in each span of 10 seconds (0 to 9");
        for (int passed = 1; passed <= 11; passed++) {
            Multidell net = twoCountedAt(0);
            net.pass(passed);
            oneMoreSwitches("after " + passed, passed <= 9, net);
        }
        Multidell net = twoCountedAt(8);
        net.pass(1);
        oneMoreSwitches("from 8 to 9", true, net);
        Multidell later = twoCountedAt(9);
        later.pass(1);
        oneMoreSwitches("from 9 to 10", false, later);
    }

    private static void promise23SecondSpan() {
        Check.sentence(23, "10 to 19 and so on)");
        for (int passed = 1; passed <= 11; passed++) {
            Multidell net = twoCountedAt(10);
            net.pass(passed);
            oneMoreSwitches("after " + passed, passed <= 9, net);
        }
        Multidell net = twoCountedAt(19);
        net.pass(1);
        oneMoreSwitches("from 19 to 20", false, net);
    }

    private static void promise23SpanThatWasPassedOver() {
        Check.sentence(23, "The counts begin with 0 in each span");
        for (int passed : new int[] {19, 20, 21, 99, 100}) {
            Multidell net = twoCountedAt(5);
            net.pass(passed);
            oneMoreSwitches("spans later, after " + passed, false, net);
        }
    }

    private static void promise23TenSecondsFromWithinASpan() {
        Check.sentence(23, "The counts begin with 0 in each span");
        for (int second = 0; second < 10; second++) {
            Multidell net = twoCountedAt(second);
            net.pass(10);
            oneMoreSwitches("ten seconds from " + second, false, net);
            Multidell before = twoCountedAt(second);
            if (second < 9) {
                before.pass(9 - second);
            }
            oneMoreSwitches("up to 9 from " + second, true, before);
        }
    }

    private static void promise23AllSpansBeginAtTens() {
        Check.sentence(23, "0 to 9, 10 to 19 and so on");
        Multidell net = Nets.made(Nets::chain);
        net.join(2, 0);
        for (int span = 0; span < 40; span++) {
            Nets.sendFollowed(net, 1, 0, 1);
            net.pass(9);
            Nets.sendFollowed(net, 1, 0, 1);
            net.pass(1);
        }
        Check.same("two in each of 40 spans", 0, net.switched(1, 0));
        Nets.sendFollowed(net, 1, 0, 2);
        net.pass(9);
        oneMoreSwitches("three from 400 to 409", true, net);
    }

    private static void promise23SpanOfAllCounts() {
        Check.sentence(23, "The counts begin with 0");
        Multidell net = Nets.made(Nets::star);
        for (int router = 0; router < 10; router++) {
            net.join(router, 3);
        }
        net.setLimit(2);
        for (int source = 0; source < 10; source++) {
            Nets.sendFollowed(net, source, 0, 1);
            Nets.sendFollowed(net, source, 3, 1);
        }
        net.pass(10);
        for (int source = 0; source < 10; source++) {
            Nets.sendFollowed(net, source, 0, 1);
            Nets.sendFollowed(net, source, 3, 1);
            Check.same("one each", 0, net.switched(source, 0) | net.switched(source, 3));
        }
        for (int source = 0; source < 10; source++) {
            Nets.sendFollowed(net, source, 3, 1);
            Check.same("two each", 1023 - Check.set(source), net.switched(source, 3));
        }
    }

    private static void promise23SwitchedStays() {
        Check.sentence(23, "The counts begin with 0 in each span");
        Multidell net = twoCountedAt(9);
        oneMoreSwitches("three", true, net);
        net.pass(1);
        Check.same("who has switched stays", Check.set(2), net.switched(1, 0));
        net.pass(100);
        Check.same("its branch too", Check.set(2), net.sourceBranches(1, 1, 0));
    }

    private static void promise23CopiesWait() {
        Check.sentence(23, "The counts begin with 0 in each span");
        Multidell net = Nets.made(Nets::chain);
        net.join(2, 0);
        net.send(1, 0);
        net.send(1, 0);
        net.send(1, 0);
        net.follow();
        net.follow();
        net.follow();
        net.pass(9);
        net.follow();
        net.pass(1);
        Check.same("copies wait", 2, net.queued());
        net.follow();
        net.follow();
        Check.same("received in two spans", 0, net.switched(1, 0));
        oneMoreSwitches("three in this span", true, net);
    }

    private static void promise24FromZeroOn() {
        Check.sentence(24, "The clock counts seconds, from 0 on");
        Multidell net = new Multidell();
        Check.same("at first", 0, net.clock());
        net.setLink(0, 1, 1);
        net.send(0, 0);
        Check.same("calls take no time", 0, net.clock());
        net.pass(1);
        Check.same("one", 1, net.clock());
        Check.same("asking takes none", 1, net.clock());
    }

    private static void promise24TheMostSeconds() {
        Check.sentence(24, "Returns the clock");
        Multidell net = new Multidell();
        for (int call = 1; call <= 255; call++) {
            net.pass(100);
            Check.same("a hundred more", 100 * call, net.clock());
        }
    }
}
