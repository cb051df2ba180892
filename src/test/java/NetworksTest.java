/** Promises 1 to 5: a new object, addNetwork, addSubnet, addHost, addPeering. */
public final class NetworksTest {
    private static final Check check = new Check("NetworksTest");

    public static void main(String[] args) {
        newObject();
        objectsAreApart();
        addNetwork();
        addNetworkRefuses();
        addSubnet();
        addSubnetRefuses();
        addHost();
        addHostRefuses();
        addPeering();
        addPeeringRefuses();
        refusedCallsChangeNothing();
        check.end();
    }

    private static void newObject() {
        CloudPaths x = new CloudPaths();
        for (int port = 0; port < 16; port++) {
            check.due("pairs of a new object", x.pairs(port), 0);
        }
        check.outOfBounds("addSubnet without networks", () -> x.addSubnet(0, 0, 0));
        check.outOfBounds("addHost without subnets", () -> x.addHost(0, 0));
        check.outOfBounds("addPeering without networks", () -> x.addPeering(0, 1));
        check.outOfBounds("allow without groups", () -> x.allow(0, true, 0, 0, 0, 0));
        check.outOfBounds("clearGroup without groups", () -> x.clearGroup(0));
        check.outOfBounds("setGroup without hosts", () -> x.setGroup(0, 0, true));
        check.outOfBounds("putRule without subnets", () -> x.putRule(0, 0, true, true, 0, 0, 0, 0));
        check.outOfBounds("removeRule without subnets", () -> x.removeRule(0, 0));
        check.outOfBounds("setRoute without subnets", () -> x.setRoute(0, 0, 0, -1));
        check.outOfBounds("routeFor without subnets", () -> x.routeFor(0, 0));
        check.outOfBounds("ports without hosts", () -> x.ports(0, 1));
        check.outOfBounds("blockedBy without hosts", () -> x.blockedBy(0, 1, 0));
        check.outOfBounds("blocks without hosts", () -> x.blocks(0, 1, 0));
        check.outOfBounds("reachedFrom without hosts", () -> x.reachedFrom(0));
        check.outOfBounds("idleRules without subnets", () -> x.idleRules(0));
    }

    private static void objectsAreApart() {
        CloudPaths x = new CloudPaths();
        CloudPaths y = new CloudPaths();
        check.due("addNetwork of one", x.addNetwork(0, 10), 0);
        check.due("addNetwork of the other", y.addNetwork(0, 10), 0);
    }

    private static void addNetwork() {
        CloudPaths x = new CloudPaths();
        check.due("addNetwork(0, 4)", x.addNetwork(0, 4), 0);
        check.due("addNetwork(16, 0)", x.addNetwork(16, 0), 1);
        check.due("addNetwork(1023, 0)", x.addNetwork(1023, 0), 2);
        check.due("addNetwork(512, 8)", x.addNetwork(512, 8), 3);
        for (int size = 0; size <= 10; size++) {
            check.due("the last block of a size", new CloudPaths().addNetwork(1024 - (1 << size), size), 0);
        }
    }

    private static void addNetworkRefuses() {
        CloudPaths x = new CloudPaths();
        for (int[] block : Clouds.NO_BLOCKS) {
            check.badArgument("addNetwork of no block", () -> x.addNetwork(block[0], block[1]));
        }
        x.addNetwork(16, 4);
        check.badState("addNetwork of the same block", () -> x.addNetwork(16, 4));
        check.badState("addNetwork within another", () -> x.addNetwork(31, 0));
        check.badState("addNetwork around another", () -> x.addNetwork(0, 10));
        check.badState("addNetwork around another from the same base", () -> x.addNetwork(0, 5));
        check.due("addNetwork ahead of another", x.addNetwork(0, 4), 1);
        check.due("addNetwork behind another", x.addNetwork(32, 5), 2);
        check.due("addNetwork, the fourth", x.addNetwork(64, 0), 3);
        check.badState("addNetwork, the fifth", () -> x.addNetwork(1023, 0));
        check.badArgument("addNetwork, the fifth and no block", () -> x.addNetwork(1, 1));
    }

    private static void addSubnet() {
        CloudPaths x = new CloudPaths();
        x.addNetwork(0, 4);
        x.addNetwork(256, 8);
        check.due("addSubnet in the second network", x.addSubnet(1, 256, 7), 0);
        check.due("addSubnet as large as its network", x.addSubnet(0, 0, 4), 1);
        check.due("addSubnet at the end of its network", x.addSubnet(1, 511, 0), 2);
        check.due("rules of a new subnet", x.idleRules(2), 0);
        check.due("the first place of its list", x.putRule(2, 0, true, true, 0, 0, 0, 0), 1);
        check.due("its local route", x.routeFor(2, 300), -1);
        check.due("no other route", x.routeFor(2, 0), -2);
    }

    private static void addSubnetRefuses() {
        CloudPaths x = new CloudPaths();
        x.addNetwork(256, 8);
        x.addNetwork(0, 4);
        for (int network : Clouds.NUMBERS_BELOW_AND_FAR) {
            check.outOfBounds("addSubnet of network " + network, () -> x.addSubnet(network, 1, 1));
        }
        check.outOfBounds("addSubnet of network 2", () -> x.addSubnet(2, 256, 0));
        for (int[] block : Clouds.NO_BLOCKS) {
            check.badArgument("addSubnet of no block", () -> x.addSubnet(0, block[0], block[1]));
        }
        check.badArgument("addSubnet around its network", () -> x.addSubnet(0, 0, 9));
        check.badArgument("addSubnet around its network from the same base", () -> x.addSubnet(1, 0, 5));
        check.badArgument("addSubnet in another network", () -> x.addSubnet(0, 0, 4));
        check.badArgument("addSubnet ahead of its network", () -> x.addSubnet(0, 255, 0));
        check.badArgument("addSubnet behind its network", () -> x.addSubnet(0, 512, 0));
        x.addSubnet(0, 272, 4);
        check.badState("addSubnet within another", () -> x.addSubnet(0, 287, 0));
        check.badState("addSubnet of the same block", () -> x.addSubnet(0, 272, 4));
        check.badState("addSubnet around another", () -> x.addSubnet(0, 256, 8));
        for (int i = 1; i < 8; i++) {
            check.due("addSubnet, one more", x.addSubnet(0, 256 + i, 0), i);
        }
        check.badState("addSubnet, the ninth", () -> x.addSubnet(1, 0, 4));
        check.badArgument("addSubnet, the ninth and no block", () -> x.addSubnet(1, 1, 1));
        check.outOfBounds("addSubnet, the ninth of no network", () -> x.addSubnet(2, 1, 1));
    }

    private static void addHost() {
        CloudPaths x = new CloudPaths();
        x.addNetwork(0, 8);
        x.addSubnet(0, 64, 6);
        x.addSubnet(0, 5, 0);
        x.addGroup();
        check.due("addHost at the first address", x.addHost(0, 64), 0);
        check.due("addHost at the last address", x.addHost(0, 127), 1);
        check.due("addHost in another subnet", x.addHost(1, 5), 2);
        check.due("a new host is in no group", x.setGroup(2, 0, false), false);
        check.due("nothing leaves or comes to new hosts", x.blocks(0, 1, 0), 34);
    }

    private static void addHostRefuses() {
        CloudPaths x = new CloudPaths();
        x.addNetwork(0, 8);
        x.addSubnet(0, 64, 6);
        x.addSubnet(0, 0, 6);
        for (int subnet : Clouds.NUMBERS_BELOW_AND_FAR) {
            check.outOfBounds("addHost of subnet " + subnet, () -> x.addHost(subnet, 64));
        }
        check.outOfBounds("addHost of subnet 2", () -> x.addHost(2, -1));
        int[] outside = {63, 128, 0, -1, 1024, 64 + 1024, Integer.MIN_VALUE, Integer.MAX_VALUE, Integer.MIN_VALUE + 64};
        for (int address : outside) {
            check.badArgument("addHost at " + address, () -> x.addHost(0, address));
        }
        check.due("addHost", x.addHost(0, 64), 0);
        check.badState("addHost at the same address", () -> x.addHost(0, 64));
        check.badArgument("addHost at an address of another subnet", () -> x.addHost(1, 64));
        for (int i = 1; i < 12; i++) {
            check.due("addHost, one more", x.addHost(i % 2, (i % 2 == 0 ? 64 : 0) + i), i);
        }
        check.badState("addHost, the thirteenth", () -> x.addHost(0, 127));
        check.badArgument("addHost, the thirteenth outside", () -> x.addHost(0, 0));
        check.outOfBounds("addHost, the thirteenth of no subnet", () -> x.addHost(2, 0));
    }

    private static void addPeering() {
        CloudPaths x = new CloudPaths();
        x.addNetwork(0, 4);
        x.addNetwork(16, 4);
        x.addNetwork(32, 4);
        check.due("addPeering(0, 1)", x.addPeering(0, 1), 0);
        check.due("addPeering(0, 1) again", x.addPeering(0, 1), 1);
        check.due("addPeering(1, 0)", x.addPeering(1, 0), 2);
        check.due("addPeering(2, 0)", x.addPeering(2, 0), 3);
        check.due("addPeering(1, 2)", x.addPeering(1, 2), 4);
        check.due("addPeering(2, 1)", x.addPeering(2, 1), 5);
    }

    private static void addPeeringRefuses() {
        CloudPaths x = new CloudPaths();
        x.addNetwork(0, 4);
        x.addNetwork(16, 4);
        for (int network : Clouds.NUMBERS_BELOW_AND_FAR) {
            check.outOfBounds("addPeering of " + network, () -> x.addPeering(network, 0));
            check.outOfBounds("addPeering with " + network, () -> x.addPeering(0, network));
            check.outOfBounds("addPeering of no network with itself", () -> x.addPeering(network, network));
        }
        check.outOfBounds("addPeering(2, 2)", () -> x.addPeering(2, 2));
        check.outOfBounds("addPeering(0, 2)", () -> x.addPeering(0, 2));
        check.badArgument("addPeering(0, 0)", () -> x.addPeering(0, 0));
        check.badArgument("addPeering(1, 1)", () -> x.addPeering(1, 1));
        for (int i = 0; i < 6; i++) {
            check.due("addPeering, one more", x.addPeering(0, 1), i);
        }
        check.badState("addPeering, the seventh", () -> x.addPeering(0, 1));
        check.badArgument("addPeering, the seventh with itself", () -> x.addPeering(1, 1));
        check.outOfBounds("addPeering, the seventh of no network", () -> x.addPeering(2, 1));
    }

    private static void refusedCallsChangeNothing() {
        CloudPaths x = new CloudPaths();
        x.addNetwork(16, 4);
        check.badState("addNetwork", () -> x.addNetwork(0, 5));
        check.due("addNetwork after a refusal", x.addNetwork(0, 4), 1);
        check.badArgument("addSubnet", () -> x.addSubnet(0, 0, 4));
        check.due("addSubnet after a refusal", x.addSubnet(1, 0, 4), 0);
        check.badState("addSubnet", () -> x.addSubnet(1, 0, 3));
        check.due("addSubnet after another refusal", x.addSubnet(0, 16, 4), 1);
        check.badArgument("addHost", () -> x.addHost(1, 3));
        check.due("addHost after a refusal", x.addHost(0, 3), 0);
        check.badState("addHost", () -> x.addHost(0, 3));
        check.due("addHost after another refusal", x.addHost(0, 4), 1);
        check.badArgument("addPeering", () -> x.addPeering(1, 1));
        check.due("addPeering after a refusal", x.addPeering(1, 0), 0);
    }
}
