/** Clouds that several tests begin with. */
final class Clouds {
    static final int[] NUMBERS_BELOW_AND_FAR = {-1, Integer.MIN_VALUE, Integer.MAX_VALUE};

    /** base, size of what is no block. */
    static final int[][] NO_BLOCKS = {
        {0, -1}, {0, 11}, {0, 31}, {0, 32}, {0, Integer.MAX_VALUE}, {0, Integer.MIN_VALUE},
        {1024, 0}, {1024, 10}, {2048, 10}, {-1, 0}, {-4, 2}, {-1024, 10}, {1, 1}, {6, 2}, {1023, 1},
        {512, 10}, {511, 9}, {Integer.MIN_VALUE, 0}, {Integer.MIN_VALUE, 10}, {Integer.MAX_VALUE, 0},
    };

    /** first, last of what is no range of ports. */
    static final int[][] NO_PORTS = {
        {-1, 0}, {-1, -1}, {0, -1}, {0, 16}, {16, 16}, {15, 16}, {5, 4}, {15, 0}, {16, 15},
        {Integer.MIN_VALUE, 15}, {0, Integer.MAX_VALUE}, {Integer.MAX_VALUE, Integer.MAX_VALUE},
        {Integer.MIN_VALUE, Integer.MIN_VALUE},
    };

    private Clouds() {
    }

    /**
     * Two networks, joined by peering 0: subnets 0 and 1 in network 0, subnet 2 in network 1; hosts 0 (address 1) and
     * 1 (address 2) in subnet 0, host 2 (address 65) in subnet 1, host 3 (address 257) in subnet 2.
     */
    static CloudPaths pairOfNetworks() {
        CloudPaths x = new CloudPaths();
        x.addNetwork(0, 8);
        x.addNetwork(256, 8);
        x.addSubnet(0, 0, 6);
        x.addSubnet(0, 64, 6);
        x.addSubnet(1, 256, 6);
        x.addHost(0, 1);
        x.addHost(0, 2);
        x.addHost(1, 65);
        x.addHost(2, 257);
        x.addPeering(0, 1);
        return x;
    }

    /** The same, with all hosts in group 0 that lets everything in and out, and the routes both ways. */
    static CloudPaths open() {
        CloudPaths x = pairOfNetworks();
        x.addGroup();
        x.allow(0, true, 0, 10, 0, 15);
        x.allow(0, false, 0, 10, 0, 15);
        for (int host = 0; host < 4; host++) {
            x.setGroup(host, 0, true);
        }
        x.setRoute(0, 256, 8, 0);
        x.setRoute(1, 256, 8, 0);
        x.setRoute(2, 0, 8, 0);
        return x;
    }
}
