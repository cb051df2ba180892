import java.util.function.IntUnaryOperator;
import java.util.function.Supplier;

/** 'Terms' on addresses, blocks and ports, and on how much there may be. A test's comment has its sentence. */
public final class TermsTest {
    private static final Check check = new Check("TermsTest");

    private interface Taker {
        void take(CloudPaths x, int base, int size);
    }

    /** A call that takes a block, and a cloud in which it may take any. */
    private static final class BlockCall {
        final String name;
        final Supplier<CloudPaths> cloud;
        final Taker taker;

        BlockCall(String name, Supplier<CloudPaths> cloud, Taker taker) {
            this.name = name;
            this.cloud = cloud;
            this.taker = taker;
        }
    }

    private static final BlockCall[] BLOCK_CALLS = {
        new BlockCall("addNetwork", CloudPaths::new, (x, base, size) -> x.addNetwork(base, size)),
        new BlockCall("addSubnet", TermsTest::wide, (x, base, size) -> x.addSubnet(0, base, size)),
        new BlockCall("allow", Clouds::listed, (x, base, size) -> x.allow(0, true, base, size, 0, 15)),
        new BlockCall("putRule", Clouds::listed, (x, base, size) -> x.putRule(0, 0, true, true, base, size, 0, 15)),
        new BlockCall("setRoute", Clouds::listed, (x, base, size) -> x.setRoute(0, base, size, 0)),
    };

    public static void main(String[] args) {
        addresses();
        addressesOutside();
        blockSizes();
        blockSizesOutside();
        blockBases();
        blocksOverTheEnd();
        addressesOfANetwork();
        addressesOfASubnet();
        addressesOfAGroupRule();
        addressesOfAListRule();
        addressesOfARoute();
        portsFromFirstToLast();
        portsOutside();
        setsOfPorts();
        numberedFromZero();
        mostNetworks();
        mostSubnets();
        mostHosts();
        mostPeerings();
        mostGroups();
        mostGroupRules();
        mostListRules();
        mostRoutes();
        call512();
        check.end();
    }

    /** A network of all addresses. */
    private static CloudPaths wide() {
        CloudPaths x = new CloudPaths();
        x.addNetwork(0, 10);
        return x;
    }

    // ---- addresses and blocks

    /** "Addresses are whole numbers from 0 to 1023.": the first and the last one are addresses. */
    private static void addresses() {
        CloudPaths x = wide();
        x.addSubnet(0, 0, 10);
        check.due("a host at 0", x.addHost(0, 0), 0);
        check.due("a host at 1023", x.addHost(0, 1023), 1);
        check.due("the route to 0", x.routeFor(0, 0), -1);
        check.due("the route to 1023", x.routeFor(0, 1023), -1);
        check.due("a network at 0", new CloudPaths().addNetwork(0, 0), 0);
        check.due("a network at 1023", new CloudPaths().addNetwork(1023, 0), 0);
    }

    /** "Addresses are whole numbers from 0 to 1023.": -1 and 1024 are none. */
    private static void addressesOutside() {
        Supplier<CloudPaths> cloud = () -> {
            CloudPaths x = wide();
            x.addSubnet(0, 0, 10);
            return x;
        };
        for (int address : new int[] {-1, 1024}) {
            check.badArgument("a host at " + address, cloud, x -> x.addHost(0, address));
            check.badArgument("the route to " + address, cloud, x -> x.routeFor(0, address));
            for (BlockCall call : BLOCK_CALLS) {
                check.badArgument(call.name + " at " + address, call.cloud, x -> call.taker.take(x, address, 0));
            }
        }
    }

    /** "A block is told by a base and a size from 0 to 10": the smallest and the largest one are taken. */
    private static void blockSizes() {
        for (BlockCall call : BLOCK_CALLS) {
            check.due(call.name + " of size 0", takes(call, 5, 0), true);
            check.due(call.name + " of size 10", takes(call, 0, 10), true);
        }
    }

    /** "a size from 0 to 10": one less and one more are refused, and what a shift would wrap around to such a size. */
    private static void blockSizesOutside() {
        for (BlockCall call : BLOCK_CALLS) {
            for (int size : new int[] {-1, 11, 31, 32, 33, 42, -22, Integer.MIN_VALUE, Integer.MAX_VALUE}) {
                check.badArgument(call.name + " of size " + size, call.cloud, x -> call.taker.take(x, 0, size));
            }
        }
    }

    /** "the base is a multiple of their number": every base from 0 to 1023 with every size. */
    private static void blockBases() {
        for (BlockCall call : BLOCK_CALLS) {
            for (int size = 0; size <= 10; size++) {
                int number = 1 << size;
                for (int base = 0; base < 1024; base++) {
                    check.due(call.name + " " + base + ", " + size, takes(call, base, size), base % number == 0);
                }
            }
        }
    }

    private static boolean takes(BlockCall call, int base, int size) {
        try {
            call.taker.take(call.cloud.get(), base, size);
            return true;
        } catch (IllegalArgumentException e) {
            return false;
        }
    }

    /** A block has addresses alone: a multiple of the number that lies outside 0 to 1023 is no base. */
    private static void blocksOverTheEnd() {
        for (BlockCall call : BLOCK_CALLS) {
            for (int size = 0; size <= 10; size++) {
                int number = 1 << size;
                for (int base : new int[] {1024, -number, Integer.MIN_VALUE, 1024 << 20, -1024 << 20}) {
                    check.due(call.name + " " + base + ", " + size, takes(call, base, size), false);
                }
            }
        }
    }

    /** "it has 2 to the power of the size addresses from the base on": asks right ahead, at both ends, right behind. */
    private static void edges(String what, int base, int size, IntUnaryOperator has) {
        int last = base + (1 << size) - 1;
        for (int address : new int[] {base - 1, base, last, last + 1}) {
            if (address >= 0 && address <= 1023) {
                boolean due = address >= base && address <= last;
                check.due(what + " " + base + ", " + size + " at " + address, has.applyAsInt(address), due ? 1 : 0);
            }
        }
    }

    private static final int[][] BLOCKS = {
        {0, 0}, {1, 0}, {1023, 0}, {2, 1}, {1022, 1}, {4, 2}, {520, 3}, {48, 4}, {992, 5}, {64, 6}, {896, 7}, {256, 8},
        {0, 9}, {512, 9}, {0, 10},
    };

    private static void addressesOfANetwork() {
        for (int[] block : BLOCKS) {
            CloudPaths x = new CloudPaths();
            x.addNetwork(block[0], block[1]);
            x.addSubnet(0, block[0], 0);
            edges("a network", block[0], block[1], address -> x.routeFor(0, address) == -1 ? 1 : 0);
        }
    }

    private static void addressesOfASubnet() {
        for (int[] block : BLOCKS) {
            edges("a subnet", block[0], block[1], address -> {
                CloudPaths x = wide();
                x.addSubnet(0, block[0], block[1]);
                return Model.call(x, "addHost", new int[] {0, address}) == 0 ? 1 : 0;
            });
        }
    }

    /** An address that is not the one. */
    private static int far(int address) {
        return address < 512 ? address + 512 : address - 512;
    }

    private static void addressesOfAGroupRule() {
        for (int[] block : BLOCKS) {
            edges("a group's rule inwards", block[0], block[1], address -> {
                CloudPaths x = Clouds.apart(address, far(address));
                x.allow(0, false, 0, 10, 0, 15);
                x.allow(0, true, block[0], block[1], 0, 15);
                return x.blocks(0, 1, 9) == 0 ? 1 : 0;
            });
            edges("a group's rule outwards", block[0], block[1], address -> {
                CloudPaths x = Clouds.apart(far(address), address);
                x.allow(0, true, 0, 10, 0, 15);
                x.allow(0, false, block[0], block[1], 0, 15);
                return x.blocks(0, 1, 9) == 0 ? 1 : 0;
            });
        }
    }

    private static void addressesOfAListRule() {
        for (int[] block : BLOCKS) {
            edges("a list's rule inwards", block[0], block[1], address -> {
                CloudPaths x = Clouds.apartAndOpen(address, far(address));
                x.putRule(1, 0, true, true, block[0], block[1], 0, 15);
                return x.blocks(0, 1, 9) == 0 ? 1 : 0;
            });
            edges("a list's rule outwards", block[0], block[1], address -> {
                CloudPaths x = Clouds.apartAndOpen(far(address), address);
                x.putRule(0, 0, false, true, block[0], block[1], 0, 15);
                return x.blocks(0, 1, 9) == 0 ? 1 : 0;
            });
        }
    }

    private static void addressesOfARoute() {
        for (int[] block : BLOCKS) {
            CloudPaths x = new CloudPaths();
            int home = far(block[0]);
            x.addNetwork(home, 0);
            x.addNetwork(home ^ 1, 0);
            x.addPeering(0, 1);
            x.addSubnet(0, home, 0);
            x.setRoute(0, block[0], block[1], 0);
            edges("a route", block[0], block[1], address -> x.routeFor(0, address) == 0 ? 1 : 0);
        }
    }

    // ---- ports

    /** "Ports are 0 to 15": the first and the last one are asked for and stand in rules. */
    private static void portsFromFirstToLast() {
        for (int port : new int[] {0, 15}) {
            CloudPaths x = Clouds.apart(7, 8);
            check.due("allow inwards at " + port, x.allow(0, true, 0, 10, port, port), 1);
            check.due("allow outwards at " + port, x.allow(0, false, 0, 10, port, port), 2);
            check.due("putRule at " + port, x.putRule(0, 0, false, true, 0, 10, port, port), 1);
            check.due("blockedBy at " + port, x.blockedBy(0, 1, port), 0);
            check.due("blocks at " + port, x.blocks(0, 1, port), 0);
            check.due("blocks at the other end", x.blocks(0, 1, 15 - port), 2 + 4 + 32);
            check.due("pairs at " + port, x.pairs(port), port == 15 ? 2 : 1);
        }
    }

    /** "Ports are 0 to 15": -1 and 16 are none, nor is 32, which a shift would wrap around to 0. */
    private static void portsOutside() {
        for (int port : new int[] {-1, 16, 32}) {
            check.badArgument("allow at " + port, Clouds::listed, x -> x.allow(0, true, 0, 10, port, port));
            String call = "putRule at " + port;
            check.badArgument(call, Clouds::listed, x -> x.putRule(0, 0, true, true, 0, 10, port, port));
            check.badArgument("blockedBy at " + port, Clouds::listed, x -> x.blockedBy(0, 3, port));
            check.badArgument("blocks at " + port, Clouds::listed, x -> x.blocks(0, 3, port));
            check.badArgument("pairs at " + port, Clouds::listed, x -> x.pairs(port));
        }
    }

    /** "sets of ports are sums of 2 to the power of each." */
    private static void setsOfPorts() {
        int[] powers = {1, 2, 4, 8, 16, 32, 64, 128, 256, 512, 1024, 2048, 4096, 8192, 16384, 32768};
        for (int port = 0; port < 16; port++) {
            CloudPaths x = Clouds.apart(7, 8);
            x.allow(0, true, 0, 10, 0, 15);
            check.due("no port", x.ports(0, 1), 0);
            x.allow(0, false, 0, 10, port, port);
            check.due("port " + port, x.ports(0, 1), powers[port]);
            x.allow(0, false, 0, 10, 15 - port, 15 - port);
            check.due("ports " + port + " and " + (15 - port), x.ports(0, 1), powers[port] + powers[15 - port]);
        }
    }

    // ---- how much there may be

    /** "Networks, subnets, hosts, groups and peerings are numbered from 0." */
    private static void numberedFromZero() {
        CloudPaths x = new CloudPaths();
        check.due("the first network", x.addNetwork(1020, 0), 0);
        check.due("the second network", x.addNetwork(0, 0), 1);
        check.due("the first subnet", x.addSubnet(1, 0, 0), 0);
        check.due("the second subnet", x.addSubnet(0, 1020, 0), 1);
        check.due("the first host", x.addHost(1, 1020), 0);
        check.due("the second host", x.addHost(0, 0), 1);
        check.due("the first group", x.addGroup(), 0);
        check.due("the second group", x.addGroup(), 1);
        check.due("the first peering", x.addPeering(1, 0), 0);
        check.due("the second peering", x.addPeering(1, 0), 1);
        x.allow(1, false, 0, 0, 0, 0);
        x.allow(0, true, 1020, 0, 0, 0);
        x.setGroup(0, 1, true);
        x.setGroup(1, 0, true);
        x.setRoute(1, 0, 0, 1);
        x.setRoute(0, 1020, 0, 0);
        check.due("from the first host to the second one", x.ports(0, 1), 1);
        check.due("from the second host to the first one", x.blocks(1, 0, 0), 2 + 32);
    }

    /** How many of twenty calls, each with its own number, answer the number that comes next; none behind them may. */
    private static void most(String what, int first, int count, IntUnaryOperator call) {
        for (int i = 0; i < 20; i++) {
            check.due(what + ", call " + i, call.applyAsInt(i), i < count ? first + i : -103);
        }
    }

    private static int call(CloudPaths x, String name, int... args) {
        return Model.call(x, name, args);
    }

    /** Networks: "there are at most 4." */
    private static void mostNetworks() {
        CloudPaths x = new CloudPaths();
        most("addNetwork", 0, 4, i -> call(x, "addNetwork", 8 * i, 3));
    }

    /** Subnets: "there are at most 8.", of all networks together. */
    private static void mostSubnets() {
        CloudPaths x = Clouds.pairOfNetworks();
        most("addSubnet", 3, 5, i -> call(x, "addSubnet", i % 2, 256 * (i % 2) + 128 + 2 * i, 1));
    }

    /** Hosts: "there are at most 12.", of all subnets together. */
    private static void mostHosts() {
        CloudPaths x = Clouds.pairOfNetworks();
        int[] bases = {0, 64, 256};
        most("addHost", 4, 8, i -> call(x, "addHost", i % 3, bases[i % 3] + 20 + i));
    }

    /** Peerings: "there are at most 6.", of the same networks or others. */
    private static void mostPeerings() {
        CloudPaths x = new CloudPaths();
        for (int i = 0; i < 4; i++) {
            x.addNetwork(i, 0);
        }
        most("addPeering", 0, 6, i -> call(x, "addPeering", i % 4, (i + 1) % 4));
    }

    /** Groups: "There are at most 6." */
    private static void mostGroups() {
        CloudPaths x = new CloudPaths();
        most("addGroup", 0, 6, i -> call(x, "addGroup"));
    }

    /** "A group has rules inwards and outwards, at most 10": of both directions together, and of each group. */
    private static void mostGroupRules() {
        CloudPaths x = new CloudPaths();
        x.addGroup();
        x.addGroup();
        most("allow, both directions", 1, 10, i -> call(x, "allow", 0, i % 2, 0, 10, i % 16, 15));
        most("allow, one direction of another group", 1, 10, i -> call(x, "allow", 1, 1, 0, 10, 0, 15));
    }

    /** "Each subnet has a list of at most 12 rules": of both directions together, and of each subnet. */
    private static void mostListRules() {
        CloudPaths x = Clouds.pairOfNetworks();
        most("putRule, both directions", 1, 12, i -> call(x, "putRule", 0, 0, i % 2, 1, 0, 10, 0, 15));
        most("putRule, one direction of another list", 1, 12, i -> call(x, "putRule", 2, 0, 1, 0, 0, 10, 0, 15));
    }

    /** "Each subnet has a table of at most 8 routes": the local one is one more. */
    private static void mostRoutes() {
        CloudPaths x = Clouds.pairOfNetworks();
        for (int i = 0; i < 20; i++) {
            check.due("setRoute, call " + i, call(x, "setRoute", 0, 512 + i, 0, 0), i < 8 ? -1 : -103);
            check.due("setRoute of another table, call " + i, call(x, "setRoute", 1, 4 * i, 2, 0), i < 8 ? -1 : -103);
        }
        for (int i = 0; i < 8; i++) {
            check.due("route " + i, x.routeFor(0, 512 + i), 0);
        }
        check.due("behind the last route", x.routeFor(0, 520), -2);
        check.due("the local route", x.routeFor(0, 0), -1);
    }

    /** "An object is used for at most 512 calls": the last one of them is answered like the first one. */
    private static void call512() {
        CloudPaths x = Clouds.apartAndOpen(7, 8);
        for (int i = 10; i < 510; i += 4) {
            check.due("putRule", x.putRule(0, 0, false, false, 8, 0, 3, 3), 1);
            check.due("ports", x.ports(0, 1), 0);
            check.due("removeRule", x.removeRule(0, 0), 0);
            check.due("ports", x.ports(0, 1), 65535);
        }
        check.due("call 511", x.addGroup(), 1);
        check.due("call 512", x.ports(1, 0), 65535);
    }
}
