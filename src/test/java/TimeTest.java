/** Promises 23 and 24: pass and clock. */
public final class TimeTest {
    private TimeTest() {
    }

    public static void main(String[] args) {
        promise23PassLetsBranchesGo();
        promise23PassOneSecondAtATime();
        promise23PassSpans();
        promise23PassLongSpans();
        promise24Clock();
        Check.end();
    }

    private static void promise23PassLetsBranchesGo() {
        Multidell net = Nets.made(Nets::chain);
        net.join(3, 0);
        Check.same("wanted ones stay", 0, net.pass(100));
        net.leave(3, 0);
        Check.same("two seconds", 0, net.pass(2));
        Check.same("three seconds, the last one", 1, net.pass(1));
        Check.same("the one above it", 1, net.pass(3));
        Check.same("the first one, not yet", 0, net.pass(2));
        Check.same("the first one", 1, net.pass(1));
        Check.same("nothing left", 0, net.pass(100));
        net.join(3, 0);
        net.leave(3, 0);
        Check.same("eight seconds let two go", 2, net.pass(8));
        Check.same("the ninth the third", 1, net.pass(1));
        net.join(3, 0);
        net.join(2, 1);
        net.leave(3, 0);
        net.leave(2, 1);
        Check.same("all trees, one call", 5, net.pass(100));
    }

    private static void promise23PassOneSecondAtATime() {
        Multidell net = Nets.made(Nets::star);
        net.leave(1, 0);
        Check.same("first second", 0, net.pass(1));
        net.leave(2, 0);
        Check.same("second second", 0, net.pass(1));
        net.leave(3, 0);
        Check.same("1 goes", 1, net.pass(1));
        Check.same("2 and 3 are leaving", 2, net.leaving());
        net.join(3, 0);
        Check.same("2 goes", 1, net.pass(1));
        Check.same("3 is leaving no more", 0, net.pass(50));
        Check.same("what is left", 1022 - Check.set(1, 2), net.branches(0, 0));
    }

    private static void promise23PassSpans() {
        Multidell net = Nets.made(Nets::chain);
        net.join(1, 0);
        net.pass(8);
        Nets.sendFollowed(net, 2, 0, 2);
        net.pass(1);
        Check.same("nine seconds", 9, net.clock());
        net.pass(1);
        Nets.sendFollowed(net, 2, 0, 2);
        Check.same("a span begins at 10", 0, net.switched(2, 0));
        net.pass(9);
        Check.same("19 seconds", 19, net.clock());
        Nets.sendFollowed(net, 2, 0, 1);
        Check.same("three from 10 to 19", Check.set(1), net.switched(2, 0));
    }

    private static void promise23PassLongSpans() {
        Multidell net = Nets.made(Nets::chain);
        net.join(1, 0);
        Nets.sendFollowed(net, 2, 0, 2);
        net.pass(100);
        Nets.sendFollowed(net, 2, 0, 2);
        Check.same("another span", 0, net.switched(2, 0));
        net.pass(15);
        Nets.sendFollowed(net, 2, 0, 2);
        Check.same("yet another span", 0, net.switched(2, 0));
        net.pass(4);
        Nets.sendFollowed(net, 2, 0, 1);
        Check.same("the same span", Check.set(1), net.switched(2, 0));
        net.pass(100);
        Check.same("switched stays", Check.set(1), net.switched(2, 0));
    }

    private static void promise24Clock() {
        Multidell net = Nets.made(Nets::lively);
        Check.same("one second", 1, net.clock());
        net.pass(1);
        net.pass(100);
        Check.same("102 seconds", 102, net.clock());
        Check.same("asking lets none pass", 102, net.clock());
        Multidell lasting = new Multidell();
        for (int call = 1; call <= 500; call++) {
            lasting.pass(100);
        }
        Check.same("50000 seconds", 50000, lasting.clock());
    }
}
