import java.util.function.Consumer;

/**
 * "If several exceptions apply, the one that is documented first is thrown.": for each call, two or three that apply.
 * In the full cloud every number of something more, and everything put in addition, is refused.
 */
public final class FirstExceptionTest {
    private static final Check check = new Check("FirstExceptionTest");

    public static void main(String[] args) {
        addNetwork();
        addSubnet();
        addHost();
        addPeering();
        allow();
        putRule();
        setRoute();
        routeFor();
        ports();
        blockedBy();
        blocks();
        check.end();
    }

    private static void bounds(String call, Consumer<CloudPaths> run) {
        check.outOfBounds(call, Clouds::full, run);
    }

    private static void argument(String call, Consumer<CloudPaths> run) {
        check.badArgument(call, Clouds::full, run);
    }

    private static void addNetwork() {
        argument("addNetwork: no block, and there are 4", x -> x.addNetwork(1024, 0));
        argument("addNetwork: no block, taken, and there are 4", x -> x.addNetwork(1, 1));
        check.badArgument("addNetwork: no block, and taken", Clouds::listed, x -> x.addNetwork(256, 9));
    }

    private static void addSubnet() {
        bounds("addSubnet: no network, and there are 8", x -> x.addSubnet(4, 192, 6));
        bounds("addSubnet: no network, no block, and there are 8", x -> x.addSubnet(-1, 1, 1));
        argument("addSubnet: no block, and there are 8", x -> x.addSubnet(0, 200, 4));
        argument("addSubnet: not within, and there are 8", x -> x.addSubnet(0, 960, 6));
        check.outOfBounds("addSubnet: no network, and no block", Clouds::listed, x -> x.addSubnet(2, 0, 11));
        check.outOfBounds("addSubnet: no network, and taken", Clouds::listed, x -> x.addSubnet(2, 0, 6));
        check.badArgument("addSubnet: no block, and taken", Clouds::listed, x -> x.addSubnet(0, 32, 6));
        check.badArgument("addSubnet: not within, and taken", Clouds::listed, x -> x.addSubnet(0, 256, 6));
        check.badArgument("addSubnet: around the network, and taken", Clouds::listed, x -> x.addSubnet(0, 0, 10));
    }

    private static void addHost() {
        bounds("addHost: no subnet, and there are 12", x -> x.addHost(8, 3));
        bounds("addHost: no subnet, no address, and there are 12", x -> x.addHost(-1, 1024));
        argument("addHost: outside, and there are 12", x -> x.addHost(0, 64));
        argument("addHost: no address, and there are 12", x -> x.addHost(0, -1));
        check.outOfBounds("addHost: no subnet, and outside", Clouds::listed, x -> x.addHost(3, -1));
        check.outOfBounds("addHost: no subnet, and taken", Clouds::listed, x -> x.addHost(3, 65));
        check.badArgument("addHost: outside, and taken", Clouds::listed, x -> x.addHost(0, 65));
    }

    private static void addPeering() {
        bounds("addPeering: no network, and there are 6", x -> x.addPeering(0, 4));
        bounds("addPeering: no network, the same, and there are 6", x -> x.addPeering(4, 4));
        argument("addPeering: the same, and there are 6", x -> x.addPeering(3, 3));
        check.outOfBounds("addPeering: no network, and the same", Clouds::listed, x -> x.addPeering(2, 2));
        check.outOfBounds("addPeering: no networks, and the same", Clouds::listed, x -> x.addPeering(-1, -1));
    }

    private static void allow() {
        bounds("allow: no group, and no block", x -> x.allow(6, true, 1, 1, 0, 0));
        bounds("allow: no group, and no ports", x -> x.allow(6, true, 0, 0, 1, 0));
        argument("allow: no block, and 10 rules", x -> x.allow(0, true, 1, 1, 0, 0));
        argument("allow: no ports, and 10 rules", x -> x.allow(0, true, 0, 0, 1, 0));
        argument("allow: no block, no ports, and 10 rules", x -> x.allow(0, false, 0, -1, 0, 16));
    }

    private static void putRule() {
        bounds("putRule: no subnet, and no block", x -> x.putRule(8, 0, true, true, 1, 1, 0, 0));
        bounds("putRule: no subnet, and no ports", x -> x.putRule(8, 0, true, true, 0, 0, 1, 0));
        bounds("putRule: no place, and no block", x -> x.putRule(1, 1, true, true, 1, 1, 0, 0));
        bounds("putRule: no place, and no ports", x -> x.putRule(1, -1, true, true, 0, 0, 16, 16));
        bounds("putRule: no place, and 12 rules", x -> x.putRule(0, 13, true, true, 0, 0, 0, 0));
        bounds("putRule: no place, no block, no ports, and 12 rules", x -> x.putRule(0, -1, true, true, 1, 1, 1, 0));
        argument("putRule: no block, and 12 rules", x -> x.putRule(0, 12, true, true, 1, 1, 0, 0));
        argument("putRule: no ports, and 12 rules", x -> x.putRule(0, 12, true, true, 0, 0, 0, 16));
    }

    private static void setRoute() {
        bounds("setRoute: no subnet, and no block", x -> x.setRoute(8, 1, 1, 0));
        bounds("setRoute: no subnet, and no block to remove", x -> x.setRoute(-1, 1, 1, -1));
        bounds("setRoute: no peering, and no block", x -> x.setRoute(1, 1, 1, 6));
        bounds("setRoute: no peering, and 8 routes", x -> x.setRoute(0, 0, 10, -2));
        bounds("setRoute: no peering, no block, and 8 routes", x -> x.setRoute(0, 0, 11, 6));
        argument("setRoute: no block, and 8 routes", x -> x.setRoute(0, 1, 1, 0));
    }

    private static void routeFor() {
        bounds("routeFor: no subnet, and no address above", x -> x.routeFor(8, 1024));
        bounds("routeFor: no subnet, and no address below", x -> x.routeFor(-1, -1));
    }

    private static void ports() {
        bounds("ports: no host, and the same above", x -> x.ports(12, 12));
        bounds("ports: no host, and the same below", x -> x.ports(-1, -1));
    }

    private static void blockedBy() {
        bounds("blockedBy: no host, and the same", x -> x.blockedBy(12, 12, 0));
        bounds("blockedBy: no first host, and no port", x -> x.blockedBy(-1, 0, 16));
        bounds("blockedBy: no other host, and no port", x -> x.blockedBy(0, 12, -1));
        bounds("blockedBy: no host, the same, and no port", x -> x.blockedBy(-1, -1, -1));
    }

    private static void blocks() {
        bounds("blocks: no host, and the same", x -> x.blocks(12, 12, 0));
        bounds("blocks: no first host, and no port", x -> x.blocks(-1, 0, 16));
        bounds("blocks: no other host, and no port", x -> x.blocks(0, 12, -1));
        bounds("blocks: no host, the same, and no port", x -> x.blocks(-1, -1, -1));
    }
}
