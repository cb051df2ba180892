/** Clouds that several tests begin with, and numbers that are out of range. */
final class Clouds {
    static final int[] NUMBERS_BELOW_AND_FAR = {-1, Integer.MIN_VALUE, Integer.MAX_VALUE};

    /** base, size of what is no block: the size too small or too large, one that wraps around in a shift. */
    static final int[][] NO_SIZES = {
        {0, -1}, {0, 11}, {0, 31}, {0, 32}, {0, 33}, {0, Integer.MAX_VALUE}, {0, Integer.MIN_VALUE},
    };

    /** base, size of what is no block: an address of it would be below 0 or above 1023. */
    static final int[][] NO_ADDRESSES = {
        {1024, 0}, {1024, 10}, {2048, 10}, {-1, 0}, {-4, 2}, {-1024, 10}, {Integer.MIN_VALUE, 0},
        {Integer.MIN_VALUE, 10}, {Integer.MAX_VALUE, 0}, {Integer.MAX_VALUE - 1023, 10},
    };

    /** base, size of what is no block: the base is no multiple of 2 to the power of the size. */
    static final int[][] NO_MULTIPLES = {
        {1, 1}, {1023, 1}, {6, 2}, {4, 3}, {300, 6}, {511, 9}, {256, 9}, {512, 10}, {1, 10}, {1023, 10},
    };

    static final int[][] NO_BLOCKS = joined(joined(NO_SIZES, NO_ADDRESSES), NO_MULTIPLES);

    /** first, last of what is no range of ports. */
    static final int[][] NO_PORTS = {
        {-1, 0}, {-1, -1}, {0, -1}, {0, 16}, {16, 16}, {15, 16}, {5, 4}, {15, 0}, {16, 15}, {32, 32}, {0, 32},
        {Integer.MIN_VALUE, 15}, {0, Integer.MAX_VALUE}, {Integer.MAX_VALUE, Integer.MAX_VALUE},
        {Integer.MIN_VALUE, Integer.MIN_VALUE},
    };

    private Clouds() {
    }

    private static int[][] joined(int[][] one, int[][] other) {
        int[][] all = new int[one.length + other.length][];
        System.arraycopy(one, 0, all, 0, one.length);
        System.arraycopy(other, 0, all, one.length, other.length);
        return all;
    }

    /**
     * Two networks, joined by peering 0: subnets 0 and 1 in network 0, subnet 2 in network 1; hosts 0 (address 1) and
     * 1 (address 2) in subnet 0, host 2 (address 65) in subnet 1, host 3 (address 257) in subnet 2.
     */
    static CloudPaths pairOfNetworks() {
        CloudPaths x = new CloudPaths();
        x.addNetwork(0, 8);
        x.addNetwork(256, 8);
        x.addSubnet(0, 0, 6);
        x.addSubnet(0, 64, 6);
        x.addSubnet(1, 256, 6);
        x.addHost(0, 1);
        x.addHost(0, 2);
        x.addHost(1, 65);
        x.addHost(2, 257);
        x.addPeering(0, 1);
        return x;
    }

    /** The same, with all hosts in group 0 that lets everything in and out, and the routes both ways. */
    static CloudPaths open() {
        CloudPaths x = pairOfNetworks();
        x.addGroup();
        x.allow(0, true, 0, 10, 0, 15);
        x.allow(0, false, 0, 10, 0, 15);
        for (int host = 0; host < 4; host++) {
            x.setGroup(host, 0, true);
        }
        x.setRoute(0, 256, 8, 0);
        x.setRoute(1, 256, 8, 0);
        x.setRoute(2, 0, 8, 0);
        return x;
    }

    /** The open cloud with rules in the lists of the subnets 0 and 2 that let all its connections through. */
    static CloudPaths listed() {
        CloudPaths x = open();
        for (int subnet = 0; subnet <= 2; subnet += 2) {
            x.putRule(subnet, 0, true, false, 600, 3, 2, 9);
            x.putRule(subnet, 1, true, true, 0, 10, 0, 15);
            x.putRule(subnet, 2, false, true, 0, 10, 0, 15);
        }
        return x;
    }

    /**
     * The open cloud with as much of everything as there may be: 4 networks, 8 subnets, 12 hosts, 6 peerings, 6 groups,
     * 10 rules in group 0, and in subnet 0 12 rules and 8 routes. The addresses 192 to 255 and 896 to 1023 are free.
     */
    static CloudPaths full() {
        CloudPaths x = open();
        x.addNetwork(512, 8);
        x.addNetwork(768, 7);
        int[][] subnets = {{0, 128}, {1, 320}, {2, 512}, {2, 576}, {3, 768}};
        for (int[] subnet : subnets) {
            x.addSubnet(subnet[0], subnet[1], 6);
        }
        int[][] hosts = {{3, 129}, {4, 321}, {5, 513}, {5, 514}, {6, 577}, {7, 769}, {7, 770}, {2, 258}};
        for (int i = 0; i < hosts.length; i++) {
            x.addHost(hosts[i][0], hosts[i][1]);
            x.setGroup(4 + i, 0, true);
        }
        int[][] peerings = {{0, 2}, {0, 3}, {1, 2}, {1, 3}, {2, 3}};
        for (int[] peering : peerings) {
            x.addPeering(peering[0], peering[1]);
        }
        fillGroups(x);
        fillSubnet(x);
        return x;
    }

    private static void fillGroups(CloudPaths x) {
        for (int i = 0; i < 8; i++) {
            x.allow(0, i % 2 == 0, 16 * i, 4, i, 15 - i);
        }
        for (int group = 1; group < 6; group++) {
            x.addGroup();
            x.allow(group, true, 0, 10, group, group);
        }
        x.setGroup(1, 5, true);
    }

    /** The last two rules of the list and the routes to the other networks let everything through. */
    private static void fillSubnet(CloudPaths x) {
        for (int i = 0; i < 10; i++) {
            x.putRule(0, i, i % 2 == 0, i % 3 == 0, 900 + 2 * i, 1, i, 15);
        }
        x.putRule(0, 10, true, true, 0, 10, 0, 15);
        x.putRule(0, 11, false, true, 0, 10, 0, 15);
        x.setRoute(0, 512, 8, 1);
        x.setRoute(0, 768, 7, 2);
        for (int i = 0; i < 5; i++) {
            x.setRoute(0, 1000 + i, 0, i);
        }
    }

    /**
     * One network of all addresses, in it subnet 0 with host 0 at one address and subnet 1 with host 1 at another one,
     * each subnet of that address alone; both hosts are in group 0, which has no rules.
     */
    static CloudPaths apart(int one, int other) {
        CloudPaths x = new CloudPaths();
        x.addNetwork(0, 10);
        x.addSubnet(0, one, 0);
        x.addSubnet(0, other, 0);
        x.addHost(0, one);
        x.addHost(1, other);
        x.addGroup();
        x.setGroup(0, 0, true);
        x.setGroup(1, 0, true);
        return x;
    }

    /** The same, with everything open both ways. */
    static CloudPaths apartAndOpen(int one, int other) {
        CloudPaths x = apart(one, other);
        x.allow(0, true, 0, 10, 0, 15);
        x.allow(0, false, 0, 10, 0, 15);
        return x;
    }
}
