import java.util.Arrays;
import java.util.List;

/** Promises 1 to 5: a new object, addNetwork, addSubnet, addHost, addPeering. A test's comment has its sentence. */
public final class NetworksTest {
    private static final Check check = new Check("NetworksTest");

    public static void main(String[] args) {
        newObject();
        objectsAreApart();
        networkSizes();
        networkNumbers();
        networkOfNoBlock();
        networkOfTakenAddresses();
        networkBesideAnother();
        fifthNetwork();
        newSubnet();
        subnetSizes();
        subnetNumbers();
        subnetOfNoNetwork();
        subnetOfNoBlock();
        subnetNotWithin();
        subnetOfTakenAddresses();
        subnetBesideAnother();
        ninthSubnet();
        newHost();
        hostNumbers();
        hostOfNoSubnet();
        hostOutside();
        hostAtATakenAddress();
        thirteenthHost();
        peeringNumbers();
        peeringOfNoNetwork();
        peeringOfTheSame();
        seventhPeering();
        check.end();
    }

    /** "Creates an analyser without networks." */
    private static void newObject() {
        CloudPaths x = new CloudPaths();
        for (int port = 0; port < 16; port++) {
            check.due("pairs of a new object", x.pairs(port), 0);
        }
        check.outOfBounds("addSubnet without networks", () -> x.addSubnet(0, 0, 0));
        check.outOfBounds("addHost without subnets", () -> x.addHost(0, 0));
        check.outOfBounds("addPeering without networks", () -> x.addPeering(0, 1));
        check.outOfBounds("allow without groups", () -> x.allow(0, true, 0, 0, 0, 0));
        check.outOfBounds("clearGroup without groups", () -> x.clearGroup(0));
        check.outOfBounds("setGroup without hosts", () -> x.setGroup(0, 0, true));
        check.outOfBounds("putRule without subnets", () -> x.putRule(0, 0, true, true, 0, 0, 0, 0));
        check.outOfBounds("removeRule without subnets", () -> x.removeRule(0, 0));
        check.outOfBounds("setRoute without subnets", () -> x.setRoute(0, 0, 0, -1));
        check.outOfBounds("routeFor without subnets", () -> x.routeFor(0, 0));
        check.outOfBounds("ports without hosts", () -> x.ports(0, 1));
        check.outOfBounds("blockedBy without hosts", () -> x.blockedBy(0, 1, 0));
        check.outOfBounds("blocks without hosts", () -> x.blocks(0, 1, 0));
        check.outOfBounds("reachedFrom without hosts", () -> x.reachedFrom(0));
        check.outOfBounds("idleRules without subnets", () -> x.idleRules(0));
        check.due("addNetwork of all addresses", x.addNetwork(0, 10), 0);
    }

    private static void objectsAreApart() {
        List<String> ahead = Answers.of(new CloudPaths(), false);
        CloudPaths x = new CloudPaths();
        Clouds.full();
        check.same("a new object ahead of another one's calls", Answers.of(x, false), ahead);
        check.same("a new object behind another one's calls", Answers.of(new CloudPaths(), false), ahead);
    }

    // ---- addNetwork

    /** "the size of its block, 0 to 10" */
    private static void networkSizes() {
        for (int size = 0; size <= 10; size++) {
            check.due("the first block of size " + size, new CloudPaths().addNetwork(0, size), 0);
            check.due("the last block of size " + size, new CloudPaths().addNetwork(1024 - (1 << size), size), 0);
        }
    }

    /** "Returns its number." */
    private static void networkNumbers() {
        CloudPaths x = new CloudPaths();
        check.due("addNetwork(512, 8)", x.addNetwork(512, 8), 0);
        check.due("addNetwork(1023, 0)", x.addNetwork(1023, 0), 1);
        check.due("addNetwork(16, 0)", x.addNetwork(16, 0), 2);
        check.due("addNetwork(0, 4)", x.addNetwork(0, 4), 3);
    }

    /** "Throws IllegalArgumentException if base and size are no block of addresses" */
    private static void networkOfNoBlock() {
        for (int[] block : Clouds.NO_BLOCKS) {
            String call = "addNetwork of no block " + Arrays.toString(block);
            check.badArgument(call, Clouds::listed, x -> x.addNetwork(block[0], block[1]));
        }
    }

    /** "Throws IllegalStateException if another network has an address of it" */
    private static void networkOfTakenAddresses() {
        int[][] blocks = {{256, 8}, {256, 0}, {511, 0}, {384, 7}, {0, 9}, {0, 10}, {0, 8}, {255, 0}, {0, 0}};
        for (int[] block : blocks) {
            String call = "addNetwork of taken addresses " + Arrays.toString(block);
            check.badState(call, Clouds::listed, x -> x.addNetwork(block[0], block[1]));
        }
    }

    /** "no two networks have an address in common": right beside another one there is none in common. */
    private static void networkBesideAnother() {
        CloudPaths x = new CloudPaths();
        x.addNetwork(16, 4);
        check.due("addNetwork right ahead", x.addNetwork(0, 4), 1);
        check.due("addNetwork right behind", x.addNetwork(32, 5), 2);
        check.due("addNetwork right behind that", x.addNetwork(64, 0), 3);
    }

    /** "Throws IllegalStateException if .. there are 4" */
    private static void fifthNetwork() {
        CloudPaths x = Clouds.open();
        check.due("the third", x.addNetwork(1022, 0), 2);
        check.due("the fourth", x.addNetwork(1023, 0), 3);
        check.badState("addNetwork(896, 7), the fifth", Clouds::full, y -> y.addNetwork(896, 7));
        check.badState("addNetwork(1023, 0), the fifth", Clouds::full, y -> y.addNetwork(1023, 0));
        check.badState("addNetwork(0, 0), the fifth and taken", Clouds::full, y -> y.addNetwork(0, 0));
    }

    // ---- addSubnet

    /** "Adds a subnet, without rules and routes." */
    private static void newSubnet() {
        CloudPaths x = Clouds.open();
        check.due("addSubnet", x.addSubnet(1, 320, 6), 3);
        check.outOfBounds("a rule of it", () -> x.removeRule(3, 0));
        check.due("idle rules of it", x.idleRules(3), 0);
        check.due("its local route", x.routeFor(3, 256), -1);
        check.due("no other route", x.routeFor(3, 0), -2);
        check.due("a route like another subnet's", x.setRoute(3, 0, 8, 0), -1);
        check.due("the first place of its list", x.putRule(3, 0, true, true, 0, 0, 0, 0), 1);
    }

    /** "the size of its block, 0 to 10" */
    private static void subnetSizes() {
        for (int size = 0; size <= 10; size++) {
            CloudPaths x = new CloudPaths();
            x.addNetwork(0, 10);
            int last = 1024 - (1 << size);
            check.due("the last block of size " + size, x.addSubnet(0, last, size), 0);
            check.due("its first address", x.addHost(0, last), 0);
            CloudPaths y = new CloudPaths();
            y.addNetwork(last, size);
            check.due("as large as its network, size " + size, y.addSubnet(0, last, size), 0);
        }
    }

    /** "Returns its number." */
    private static void subnetNumbers() {
        CloudPaths x = new CloudPaths();
        x.addNetwork(0, 4);
        x.addNetwork(256, 8);
        check.due("in the second network", x.addSubnet(1, 256, 7), 0);
        check.due("in the first network", x.addSubnet(0, 0, 4), 1);
        check.due("in the second network again", x.addSubnet(1, 511, 0), 2);
        check.due("the last address of number 2", x.addHost(2, 511), 0);
        check.due("the first address of number 1", x.addHost(1, 0), 1);
    }

    /** "Throws IndexOutOfBoundsException if there is no such network" */
    private static void subnetOfNoNetwork() {
        for (int network : Clouds.NUMBERS_BELOW_AND_FAR) {
            String call = "addSubnet of network " + network;
            check.outOfBounds(call, Clouds::listed, x -> x.addSubnet(network, 192, 6));
        }
        check.outOfBounds("addSubnet of network 2", Clouds::listed, x -> x.addSubnet(2, 192, 6));
        check.outOfBounds("addSubnet of network 4", Clouds::full, x -> x.addSubnet(4, 192, 6));
    }

    /** "Throws IllegalArgumentException if base and size are no block of addresses" */
    private static void subnetOfNoBlock() {
        for (int[] block : Clouds.NO_BLOCKS) {
            String call = "addSubnet of no block " + Arrays.toString(block);
            check.badArgument(call, Clouds::listed, x -> x.addSubnet(0, block[0], block[1]));
        }
        check.badArgument("addSubnet in free room, no multiple", Clouds::listed, x -> x.addSubnet(0, 200, 4));
    }

    /** "Throws IllegalArgumentException if .. it is not within that of the network" */
    private static void subnetNotWithin() {
        int[][] calls = {
            {1, 512, 0}, {1, 255, 0}, {0, 256, 0}, {1, 192, 6}, {0, 320, 6}, {0, 0, 9}, {1, 0, 9}, {0, 0, 10},
            {1, 0, 10}, {0, 1023, 0},
        };
        for (int[] a : calls) {
            String call = "addSubnet not within " + Arrays.toString(a);
            check.badArgument(call, Clouds::listed, x -> x.addSubnet(a[0], a[1], a[2]));
        }
    }

    /** "Throws IllegalStateException if another subnet has an address of it" */
    private static void subnetOfTakenAddresses() {
        int[][] calls = {
            {0, 0, 6}, {0, 0, 0}, {0, 63, 0}, {0, 64, 6}, {0, 64, 0}, {0, 127, 0}, {0, 96, 5}, {0, 0, 7}, {0, 0, 8},
            {1, 256, 6}, {1, 319, 0}, {1, 256, 8},
        };
        for (int[] a : calls) {
            String call = "addSubnet of taken addresses " + Arrays.toString(a);
            check.badState(call, Clouds::listed, x -> x.addSubnet(a[0], a[1], a[2]));
        }
    }

    /** "no two subnets have an address in common": right beside another one there is none in common. */
    private static void subnetBesideAnother() {
        CloudPaths x = new CloudPaths();
        x.addNetwork(0, 8);
        check.due("addSubnet", x.addSubnet(0, 64, 6), 0);
        check.due("addSubnet right ahead", x.addSubnet(0, 63, 0), 1);
        check.due("addSubnet right behind", x.addSubnet(0, 128, 7), 2);
    }

    /** "Throws IllegalStateException if .. there are 8" */
    private static void ninthSubnet() {
        CloudPaths x = Clouds.open();
        for (int i = 3; i < 8; i++) {
            check.due("one more", x.addSubnet(i % 2, (i % 2 == 0 ? 128 : 384) + i, 0), i);
        }
        check.badState("addSubnet(0, 192, 6), the ninth", Clouds::full, y -> y.addSubnet(0, 192, 6));
        check.badState("addSubnet(3, 895, 0), the ninth", Clouds::full, y -> y.addSubnet(3, 895, 0));
        check.badState("addSubnet(0, 0, 6), the ninth and taken", Clouds::full, y -> y.addSubnet(0, 0, 6));
    }

    // ---- addHost

    /** "Adds a host, which is in no group." */
    private static void newHost() {
        CloudPaths x = Clouds.open();
        for (int group = 1; group < 6; group++) {
            x.addGroup();
        }
        check.due("addHost", x.addHost(0, 3), 4);
        check.due("nothing leaves it", x.blocks(4, 0, 0), 2);
        check.due("nothing comes to it", x.blocks(0, 4, 0), 32);
        for (int group = 0; group < 6; group++) {
            check.due("it is in group " + group, x.setGroup(4, group, false), false);
        }
    }

    /** "Returns its number." */
    private static void hostNumbers() {
        CloudPaths x = new CloudPaths();
        x.addNetwork(0, 8);
        x.addSubnet(0, 64, 6);
        x.addSubnet(0, 5, 0);
        check.due("at the last address", x.addHost(0, 127), 0);
        check.due("at the first address", x.addHost(0, 64), 1);
        check.due("in another subnet", x.addHost(1, 5), 2);
    }

    /** "Throws IndexOutOfBoundsException if there is no such subnet" */
    private static void hostOfNoSubnet() {
        for (int subnet : Clouds.NUMBERS_BELOW_AND_FAR) {
            check.outOfBounds("addHost of subnet " + subnet, Clouds::listed, x -> x.addHost(subnet, 3));
        }
        check.outOfBounds("addHost of subnet 3", Clouds::listed, x -> x.addHost(3, 3));
        check.outOfBounds("addHost of subnet 8", Clouds::full, x -> x.addHost(8, 3));
    }

    /** "Throws IllegalArgumentException if the address is not in the block of the subnet" */
    private static void hostOutside() {
        int[] addresses = {
            63, 128, 0, 192, 320, 1023, -1, -960, 1024, 64 + 1024, Integer.MIN_VALUE, Integer.MAX_VALUE,
            Integer.MIN_VALUE + 64,
        };
        for (int address : addresses) {
            check.badArgument("addHost at " + address, Clouds::listed, x -> x.addHost(1, address));
        }
    }

    /** "Throws IllegalStateException if a host has this address" */
    private static void hostAtATakenAddress() {
        check.badState("addHost at the first host's address", Clouds::listed, x -> x.addHost(0, 1));
        check.badState("addHost at the second host's address", Clouds::listed, x -> x.addHost(0, 2));
        check.badState("addHost at the last host's address", Clouds::listed, x -> x.addHost(2, 257));
        CloudPaths x = Clouds.open();
        check.due("addHost right ahead of the first host", x.addHost(0, 0), 4);
        check.due("addHost right behind the second host", x.addHost(0, 3), 5);
    }

    /** "Throws IllegalStateException if .. there are 12" */
    private static void thirteenthHost() {
        CloudPaths x = Clouds.open();
        for (int i = 4; i < 12; i++) {
            check.due("one more", x.addHost(i % 3, i % 3 == 2 ? 256 + i : 64 * (i % 3) + i), i);
        }
        check.badState("addHost(0, 3), the thirteenth", Clouds::full, y -> y.addHost(0, 3));
        check.badState("addHost(7, 831), the thirteenth", Clouds::full, y -> y.addHost(7, 831));
        check.badState("addHost(0, 1), the thirteenth and taken", Clouds::full, y -> y.addHost(0, 1));
    }

    // ---- addPeering

    /** "Returns its number." */
    private static void peeringNumbers() {
        CloudPaths x = new CloudPaths();
        x.addNetwork(0, 4);
        x.addNetwork(16, 4);
        x.addNetwork(32, 4);
        check.due("addPeering(0, 1)", x.addPeering(0, 1), 0);
        check.due("addPeering(0, 1) again", x.addPeering(0, 1), 1);
        check.due("addPeering(1, 0)", x.addPeering(1, 0), 2);
        check.due("addPeering(2, 0)", x.addPeering(2, 0), 3);
    }

    /** "Throws IndexOutOfBoundsException if there is no such network" */
    private static void peeringOfNoNetwork() {
        for (int network : Clouds.NUMBERS_BELOW_AND_FAR) {
            check.outOfBounds("addPeering of " + network, Clouds::listed, x -> x.addPeering(network, 0));
            check.outOfBounds("addPeering with " + network, Clouds::listed, x -> x.addPeering(0, network));
        }
        check.outOfBounds("addPeering(2, 0)", Clouds::listed, x -> x.addPeering(2, 0));
        check.outOfBounds("addPeering(0, 2)", Clouds::listed, x -> x.addPeering(0, 2));
        check.outOfBounds("addPeering(4, 0)", Clouds::full, x -> x.addPeering(4, 0));
        check.outOfBounds("addPeering(0, 4)", Clouds::full, x -> x.addPeering(0, 4));
    }

    /** "Throws IllegalArgumentException if both are the same" */
    private static void peeringOfTheSame() {
        check.badArgument("addPeering(0, 0)", Clouds::listed, x -> x.addPeering(0, 0));
        check.badArgument("addPeering(1, 1)", Clouds::listed, x -> x.addPeering(1, 1));
    }

    /** "Throws IllegalStateException if there are 6" */
    private static void seventhPeering() {
        CloudPaths x = Clouds.open();
        for (int i = 1; i < 6; i++) {
            check.due("one more", x.addPeering(i % 2, 1 - i % 2), i);
        }
        check.badState("addPeering(0, 1), the seventh", Clouds::full, y -> y.addPeering(0, 1));
        check.badState("addPeering(3, 2), the seventh", Clouds::full, y -> y.addPeering(3, 2));
    }
}
