import java.util.Arrays;

/** 'Terms' on groups, lists, routes and the parts of a connection. A test's comment has its sentence. */
public final class PacketsTest {
    private static final Check check = new Check("PacketsTest");

    private static final int LEAVE_HOST = 1 << 1;
    private static final int LEAVE_SUBNET = 1 << 2;
    private static final int ROUTE_THERE = 1 << 3;
    private static final int ENTER_SUBNET = 1 << 4;
    private static final int ENTER_HOST = 1 << 5;
    private static final int REPLY_LEAVES = 1 << 6;
    private static final int ROUTE_BACK = 1 << 7;
    private static final int REPLY_ENTERS = 1 << 8;

    public static void main(String[] args) {
        allPortsAtOnce();
        hostInAnyGroups();
        leaveByOneRule();
        comeByOneRule();
        hostWithoutGroups();
        groupsRemember();
        listByTheFirstRule();
        listByAddressAndPort();
        listWithoutRules();
        listWithoutAMatch();
        listByTheOtherAddress();
        listsDoNotRemember();
        replyHasPort15();
        smallestRoute();
        smallestOfEightRoutes();
        localRouteAhead();
        localRouteStays();
        noTwoRoutesOfABlock();
        reachedByTheLocalRoute();
        reachedByAPeering();
        peeringOfOtherNetworks();
        peeringDoesNotPassOn();
        peeringInTheSameNetwork();
        smallerRouteThatDoesNotReach();
        partsInOrder();
        sameSubnet();
        sameSubnetAsksGroups();
        sameNetworkIsNotTheSameSubnet();
        worksIfAllPartsLetThrough();
        check.end();
    }

    /** "for all ports at once which of them reach .. to another one and back, and for a port which parts block it." */
    private static void allPortsAtOnce() {
        CloudPaths x = Clouds.apart(7, 8);
        x.allow(0, false, 8, 0, 2, 13);
        x.allow(0, true, 7, 0, 0, 11);
        x.putRule(0, 0, false, false, 8, 0, 5, 6);
        x.putRule(0, 1, false, true, 8, 0, 0, 15);
        x.putRule(1, 0, true, false, 7, 0, 9, 9);
        x.putRule(1, 1, true, true, 7, 0, 0, 15);
        int[] due = new int[16];
        Arrays.fill(due, 0, 2, LEAVE_HOST);
        Arrays.fill(due, 5, 7, LEAVE_SUBNET);
        due[9] = ENTER_SUBNET;
        Arrays.fill(due, 12, 14, ENTER_HOST);
        Arrays.fill(due, 14, 16, LEAVE_HOST + ENTER_HOST);
        check.due("the ports that reach there and back", x.ports(0, 1), 0b1101_1001_1100);
        for (int port = 0; port < 16; port++) {
            check.due("the parts that block port " + port, x.blocks(0, 1, port), due[port]);
        }
        x.putRule(1, 0, false, false, 7, 0, 15, 15);
        check.due("the ports that reach, none of them back", x.ports(0, 1), 0);
        for (int port = 0; port < 16; port++) {
            check.due("the parts then, port " + port, x.blocks(0, 1, port), due[port] + REPLY_LEAVES);
        }
    }

    // ---- groups

    /** "A host can be in any groups.": in none, in each, in all six at once. */
    private static void hostInAnyGroups() {
        CloudPaths x = Clouds.apart(7, 8);
        x.allow(0, true, 0, 10, 0, 15);
        x.setGroup(0, 0, false);
        int due = 0;
        for (int group = 1; group < 6; group++) {
            x.addGroup();
            x.allow(group, false, 8, 0, 3 * group, 3 * group);
            check.due("ports, not yet in group " + group, x.ports(0, 1), due);
            x.setGroup(0, group, true);
            due += 1 << 3 * group;
            check.due("ports, in group " + group + " too", x.ports(0, 1), due);
        }
        x.allow(0, false, 8, 0, 0, 0);
        x.setGroup(0, 0, true);
        check.due("ports, in all groups", x.ports(0, 1), 0b1001_0010_0100_1001);
        x.setGroup(0, 3, false);
        check.due("ports, in all but one", x.ports(0, 1), 0b1001_0000_0100_1001);
    }

    /** "A packet may leave a host if a rule outwards of one of its groups has the block .. and its port" */
    private static void leaveByOneRule() {
        CloudPaths x = Clouds.apart(7, 8);
        x.allow(0, true, 0, 10, 0, 15);
        check.due("no rule outwards", x.blocks(0, 1, 4), LEAVE_HOST);
        x.allow(0, false, 8, 0, 5, 15);
        check.due("one has the block", x.blocks(0, 1, 4), LEAVE_HOST);
        x.allow(0, false, 9, 0, 4, 4);
        check.due("and another one the port", x.blocks(0, 1, 4), LEAVE_HOST);
        x.addGroup();
        x.setGroup(0, 1, true);
        x.allow(1, false, 0, 3, 4, 4);
        check.due("and one of another group", x.blocks(0, 1, 4), LEAVE_HOST);
        x.allow(1, false, 8, 0, 4, 4);
        check.due("one has both", x.blocks(0, 1, 4), 0);
        check.due("another port", x.blocks(0, 1, 3), LEAVE_HOST);
        x.setGroup(0, 1, false);
        x.setGroup(1, 1, true);
        check.due("one of the other host's groups has both", x.blocks(0, 1, 4), LEAVE_HOST);
    }

    /** "it may come to a host if a rule inwards of one of its groups has the block .. and its port." */
    private static void comeByOneRule() {
        CloudPaths x = Clouds.apart(7, 8);
        x.allow(0, false, 0, 10, 0, 15);
        check.due("no rule inwards", x.blocks(0, 1, 4), ENTER_HOST);
        x.allow(0, true, 7, 0, 0, 3);
        check.due("one has the block", x.blocks(0, 1, 4), ENTER_HOST);
        x.allow(0, true, 8, 2, 4, 4);
        check.due("and another one the port", x.blocks(0, 1, 4), ENTER_HOST);
        x.addGroup();
        x.setGroup(1, 1, true);
        x.allow(1, true, 6, 0, 4, 4);
        check.due("and one of another group", x.blocks(0, 1, 4), ENTER_HOST);
        x.allow(1, true, 7, 0, 4, 4);
        check.due("one has both", x.blocks(0, 1, 4), 0);
        check.due("another port", x.blocks(0, 1, 5), ENTER_HOST);
        x.setGroup(1, 1, false);
        x.setGroup(0, 1, true);
        check.due("one of the other host's groups has both", x.blocks(0, 1, 4), ENTER_HOST);
    }

    /** "A host without groups lets nothing in or out." */
    private static void hostWithoutGroups() {
        CloudPaths x = Clouds.apartAndOpen(7, 8);
        x.setGroup(0, 0, false);
        for (int port = 0; port < 16; port++) {
            check.due("out of it at port " + port, x.blocks(0, 1, port), LEAVE_HOST);
            check.due("into it at port " + port, x.blocks(1, 0, port), ENTER_HOST);
        }
        check.due("ports out of it", x.ports(0, 1), 0);
        check.due("ports into it", x.ports(1, 0), 0);
    }

    /** "Groups remember connections: replies are not asked for groups." */
    private static void groupsRemember() {
        CloudPaths x = Clouds.apart(7, 8);
        x.setGroup(1, 0, false);
        x.addGroup();
        x.setGroup(1, 1, true);
        x.allow(0, false, 8, 0, 4, 4);
        x.allow(1, true, 7, 0, 4, 4);
        check.due("no rule for the reply", x.ports(0, 1), 16);
        check.due("the other way", x.blocks(1, 0, 4), LEAVE_HOST + ENTER_HOST);
        check.due("the other way at the reply's port", x.blocks(1, 0, 15), LEAVE_HOST + ENTER_HOST);
    }

    // ---- lists

    /** "allowed or denied by the first rule of its direction that has the block .. and its port" */
    private static void listByTheFirstRule() {
        CloudPaths x = Clouds.apartAndOpen(7, 8);
        x.putRule(1, 0, true, true, 7, 0, 4, 4);
        x.putRule(1, 1, true, false, 0, 10, 0, 15);
        check.due("allowed first, then denied", x.ports(0, 1), 16);
        x.putRule(1, 0, true, false, 0, 3, 4, 5);
        check.due("denied first, then allowed", x.ports(0, 1), 0);
        x.putRule(1, 0, false, true, 7, 0, 0, 15);
        check.due("an earlier one of the other direction", x.ports(0, 1), 0);
        x.putRule(1, 0, true, true, 7, 0, 4, 4);
        check.due("allowed first again", x.ports(0, 1), 16);
    }

    /** "the first rule .. that has the block of the other address .. and its port": it has both. */
    private static void listByAddressAndPort() {
        CloudPaths x = Clouds.apartAndOpen(7, 8);
        x.putRule(0, 0, false, false, 9, 0, 0, 15);
        x.putRule(0, 1, false, false, 0, 3, 4, 4);
        x.putRule(0, 2, false, false, 8, 0, 3, 3);
        x.putRule(0, 3, false, false, 8, 0, 5, 5);
        x.putRule(0, 4, false, true, 8, 0, 3, 5);
        check.due("the first one with both allows", x.ports(0, 1), 16);
    }

    /** "if there is none, it is .. otherwise allowed": the list has no rule, or none of this direction. */
    private static void listWithoutRules() {
        CloudPaths x = Clouds.apartAndOpen(7, 8);
        check.due("no rule", x.ports(0, 1), 65535);
        x.putRule(0, 0, false, true, 9, 0, 0, 0);
        check.due("a rule of the other direction alone", x.blocks(1, 0, 4), REPLY_LEAVES);
        x.removeRule(0, 0);
        check.due("the rule removed", x.ports(0, 1), 65535);
        x.putRule(1, 0, false, false, 9, 0, 0, 0);
        check.due("a rule outwards of the other subnet", x.blocks(0, 1, 4), REPLY_LEAVES);
    }

    /** "if there is none, it is denied if the list has a rule of this direction" */
    private static void listWithoutAMatch() {
        for (int i = 0; i < 2; i++) {
            boolean allows = i == 1;
            CloudPaths x = Clouds.apartAndOpen(7, 8);
            x.putRule(0, 0, false, allows, 9, 0, 0, 15);
            check.due("a rule outwards of another address", x.blocks(0, 1, 4), LEAVE_SUBNET);
            CloudPaths y = Clouds.apartAndOpen(7, 8);
            y.putRule(1, 0, true, allows, 6, 0, 0, 15);
            check.due("a rule inwards of another address", y.blocks(0, 1, 4), ENTER_SUBNET);
            CloudPaths z = Clouds.apartAndOpen(7, 8);
            z.putRule(0, 0, false, allows, 8, 0, 5, 15);
            check.due("a rule outwards of another port", z.blocks(0, 1, 4), LEAVE_SUBNET);
        }
    }

    /** "the other address (from which it comes, or to which it goes)" */
    private static void listByTheOtherAddress() {
        CloudPaths x = Clouds.apartAndOpen(7, 8);
        x.putRule(0, 0, false, true, 7, 0, 0, 15);
        check.due("out, a rule of its own address", x.blocks(0, 1, 4), LEAVE_SUBNET);
        x.putRule(0, 0, false, true, 8, 0, 0, 15);
        check.due("out, a rule of the other address", x.blocks(0, 1, 4), 0);
        x.putRule(1, 0, true, true, 8, 0, 0, 15);
        check.due("in, a rule of its own address", x.blocks(0, 1, 4), ENTER_SUBNET);
        x.putRule(1, 0, true, true, 7, 0, 0, 15);
        check.due("in, a rule of the other address", x.blocks(0, 1, 4), 0);
    }

    /** "Lists do not remember: replies are asked, too" */
    private static void listsDoNotRemember() {
        CloudPaths x = Clouds.apartAndOpen(7, 8);
        x.putRule(1, 0, false, false, 7, 0, 0, 15);
        check.due("its reply may not leave", x.blocks(0, 1, 4), REPLY_LEAVES);
        check.due("ports without a reply", x.ports(0, 1), 0);
        x.removeRule(1, 0);
        x.putRule(0, 0, true, false, 8, 0, 0, 15);
        check.due("its reply may not come", x.blocks(0, 1, 4), REPLY_ENTERS);
        check.due("ports without a reply again", x.ports(0, 1), 0);
    }

    /** "a reply has the port 15.", whatever port the connection has */
    private static void replyHasPort15() {
        CloudPaths x = Clouds.apartAndOpen(7, 8);
        x.putRule(1, 0, false, true, 7, 0, 15, 15);
        x.putRule(0, 0, true, true, 8, 0, 15, 15);
        check.due("port 15 alone is allowed", x.ports(0, 1), 65535);
        x.putRule(1, 0, false, false, 7, 0, 0, 14);
        check.due("all others are denied", x.ports(0, 1), 65535);
        CloudPaths y = Clouds.apartAndOpen(7, 8);
        y.putRule(1, 0, false, true, 7, 0, 0, 14);
        check.due("port 15 alone may not leave", y.blocks(0, 1, 14), REPLY_LEAVES);
        check.due("at port 15", y.blocks(0, 1, 15), REPLY_LEAVES);
        CloudPaths z = Clouds.apartAndOpen(7, 8);
        z.putRule(0, 0, true, true, 8, 0, 0, 14);
        check.due("port 15 alone may not come", z.blocks(0, 1, 14), REPLY_ENTERS);
        check.due("at port 15 again", z.blocks(0, 1, 15), REPLY_ENTERS);
    }

    // ---- routes

    /** Two networks of one address, 0 and 1, six peerings between them, a subnet in the first one. */
    private static CloudPaths tiny() {
        CloudPaths x = new CloudPaths();
        x.addNetwork(0, 0);
        x.addNetwork(1, 0);
        x.addSubnet(0, 0, 0);
        for (int i = 0; i < 6; i++) {
            x.addPeering(0, 1);
        }
        return x;
    }

    /** "For an address the route counts whose block has it and is smallest": of any two sizes, set in either order. */
    private static void smallestRoute() {
        for (int small = 0; small < 10; small++) {
            for (int large = small + 1; large <= 10; large++) {
                CloudPaths x = tiny();
                int base = 1024 - (1 << small);
                x.setRoute(0, base, small, 2);
                x.setRoute(0, 1024 - (1 << large), large, 3);
                check.due("the smaller one set first", x.routeFor(0, base), 2);
                check.due("right ahead of the smaller one", x.routeFor(0, base - 1), 3);
                x.setRoute(0, base, small, -1);
                check.due("the smaller one removed", x.routeFor(0, 1023), 3);
                x.setRoute(0, base, small, 4);
                check.due("the larger one set first", x.routeFor(0, 1023), 4);
            }
        }
    }

    /** The same of eight routes, as many as there may be, one within another. */
    private static void smallestOfEightRoutes() {
        for (int least = 0; least <= 3; least++) {
            CloudPaths x = tiny();
            for (int i = 0; i < 8; i++) {
                int rank = (3 * i + 2) % 8;
                int size = least + rank;
                x.setRoute(0, 512 >> size << size, size, rank % 6);
            }
            check.due("the smallest one of eight, size " + least, x.routeFor(0, 512), 0);
            for (int rank = 1; rank < 8; rank++) {
                int size = least + rank;
                int address = size == 10 ? 511 : 512 + (1 << size - 1);
                check.due("right beside the next smaller one, size " + size, x.routeFor(0, address), rank % 6);
            }
        }
    }

    /** "the local one .. goes ahead of a route with the same block.", but not of one with a smaller block. */
    private static void localRouteAhead() {
        for (int size = 0; size <= 9; size++) {
            CloudPaths x = new CloudPaths();
            x.addNetwork(512, size);
            x.addNetwork(0, 0);
            x.addPeering(0, 1);
            x.addSubnet(0, 512, 0);
            int last = 511 + (1 << size);
            check.due("a route with the same block, size " + size, x.setRoute(0, 512, size, 0), -1);
            check.due("the first address", x.routeFor(0, 512), -1);
            check.due("the last address", x.routeFor(0, last), -1);
            check.due("the route is held", x.setRoute(0, 512, size, 0), 0);
            x.setRoute(0, 512 >> size + 1 << size + 1, size + 1, 0);
            check.due("the last address, and a larger block", x.routeFor(0, last), -1);
            check.due("beside it, the larger block", x.routeFor(0, size == 9 ? 511 : last + 1), 0);
            if (size > 0) {
                x.setRoute(0, 512, size - 1, 0);
                check.due("the first address, and a smaller block", x.routeFor(0, 512), 0);
                check.due("the last address, beside the smaller block", x.routeFor(0, last), -1);
            }
        }
    }

    /** "the local one is always there": in a full table, and when a route with its block is removed. */
    private static void localRouteStays() {
        CloudPaths x = Clouds.full();
        check.due("in a full table", x.routeFor(0, 255), -1);
        CloudPaths y = Clouds.open();
        y.setRoute(0, 0, 8, 0);
        check.due("the route with its block removed", y.setRoute(0, 0, 8, -1), 0);
        check.due("then", y.routeFor(0, 0), -1);
        check.due("removed once more", y.setRoute(0, 0, 8, -1), -1);
        check.due("then too", y.routeFor(0, 255), -1);
    }

    /** "Two routes of a table cannot have the same block." */
    private static void noTwoRoutesOfABlock() {
        CloudPaths x = tiny();
        for (int i = 0; i < 20; i++) {
            check.due("set again", x.setRoute(0, 512, 4, i % 6), i == 0 ? -1 : (i - 1) % 6);
        }
        check.due("the last one counts", x.routeFor(0, 512), 1);
        for (int i = 0; i < 7; i++) {
            check.due("there is room for seven more", x.setRoute(0, 600 + i, 0, 0), -1);
        }
        check.badState("and for no eighth", () -> x.setRoute(0, 607, 0, 0));
        check.due("removed", x.setRoute(0, 512, 4, -1), 1);
        check.due("none is left", x.routeFor(0, 512), -2);
        check.due("none is left to remove", x.setRoute(0, 512, 4, -1), -1);
    }

    /** "By the local route an address is reached if it is in the same network" */
    private static void reachedByTheLocalRoute() {
        CloudPaths x = Clouds.apartAndOpen(0, 1023);
        check.due("from the first address to the last one", x.ports(0, 1), 65535);
        CloudPaths y = Clouds.open();
        y.setRoute(0, 256, 8, -1);
        y.setRoute(1, 256, 8, -1);
        check.due("in the same network", y.ports(0, 2), 65535);
        check.due("in another network", y.blocks(0, 3, 4), ROUTE_THERE);
    }

    /** Networks 0, 1 and 2 with a subnet and a host in each, all open; peering 0 joins 0 and 1, peering 1 2 and 1. */
    private static CloudPaths chain() {
        CloudPaths x = new CloudPaths();
        x.addGroup();
        x.allow(0, true, 0, 10, 0, 15);
        x.allow(0, false, 0, 10, 0, 15);
        for (int i = 0; i < 3; i++) {
            x.addNetwork(256 * i, 8);
            x.addSubnet(i, 256 * i, 8);
            x.addHost(i, 256 * i);
            x.setGroup(i, 0, true);
        }
        x.addPeering(0, 1);
        x.addPeering(2, 1);
        return x;
    }

    /** "by a route with a peering if that joins the network of the subnet with the one in which the address is" */
    private static void reachedByAPeering() {
        CloudPaths x = chain();
        check.due("no routes", x.blocks(0, 1, 4), ROUTE_THERE + ROUTE_BACK);
        x.setRoute(0, 256, 8, 0);
        check.due("a route there", x.blocks(0, 1, 4), ROUTE_BACK);
        check.due("a route there is a route back the other way", x.blocks(1, 0, 4), ROUTE_THERE);
        x.setRoute(1, 0, 0, 0);
        check.due("and a route back", x.blocks(0, 1, 4), 0);
        x.setRoute(1, 512, 8, 1);
        x.setRoute(2, 256, 8, 1);
        check.due("by the peering's other network", x.ports(2, 1), 65535);
        check.due("and the other way", x.ports(1, 2), 65535);
    }

    /** A peering that joins not the network of the subnet, or not the one of the address, reaches nothing. */
    private static void peeringOfOtherNetworks() {
        CloudPaths x = chain();
        x.setRoute(1, 0, 0, 0);
        x.setRoute(2, 0, 0, 1);
        x.setRoute(0, 256, 8, 1);
        check.due("it joins not the subnet's network", x.blocks(0, 1, 4), ROUTE_THERE);
        x.setRoute(0, 512, 8, 0);
        check.due("it joins not the address's network", x.blocks(0, 2, 4), ROUTE_THERE + ROUTE_BACK);
        x.addPeering(0, 2);
        x.setRoute(0, 512, 8, 2);
        check.due("it joins both", x.blocks(0, 2, 4), ROUTE_BACK);
    }

    /** "so it does not pass on" */
    private static void peeringDoesNotPassOn() {
        CloudPaths x = chain();
        x.setRoute(0, 0, 10, 0);
        x.setRoute(1, 0, 9, 0);
        x.setRoute(1, 512, 9, 1);
        x.setRoute(2, 0, 10, 1);
        check.due("to the next network", x.ports(0, 1), 65535);
        check.due("from that to the next one", x.ports(1, 2), 65535);
        check.due("to the one behind", x.blocks(0, 2, 4), ROUTE_THERE + ROUTE_BACK);
        check.due("and back", x.blocks(2, 0, 4), ROUTE_THERE + ROUTE_BACK);
        check.due("the route to the one behind counts all the same", x.routeFor(0, 512), 0);
    }

    /** "an address in the same network is not reached by such a route" */
    private static void peeringInTheSameNetwork() {
        CloudPaths x = Clouds.open();
        check.due("by the local route", x.ports(0, 2), 65535);
        x.setRoute(0, 64, 6, 0);
        check.due("by a peering", x.blocks(0, 2, 4), ROUTE_THERE);
        check.due("and on the way back", x.blocks(2, 0, 4), ROUTE_BACK);
        x.setRoute(0, 64, 6, -1);
        x.setRoute(0, 0, 9, 0);
        check.due("by the local route ahead of a larger one", x.ports(0, 2), 65535);
    }

    /** The route that counts is asked alone: a larger one that would reach does not help. */
    private static void smallerRouteThatDoesNotReach() {
        CloudPaths x = chain();
        x.setRoute(0, 256, 8, 0);
        x.setRoute(1, 0, 8, 0);
        check.due("by the larger one", x.ports(0, 1), 65535);
        x.setRoute(0, 256, 0, 1);
        check.due("by a smaller one of other networks", x.blocks(0, 1, 4), ROUTE_THERE);
        x.setRoute(0, 256, 0, 0);
        check.due("by a smaller one that reaches", x.ports(0, 1), 65535);
    }

    // ---- connections

    /** Of the open cloud, those parts are shut that the set has, for all connections from host 0 to host 3. */
    private static CloudPaths shut(int set) {
        CloudPaths x = Clouds.open();
        x.addGroup();
        x.addGroup();
        x.allow(1, true, 0, 10, 0, 15);
        x.allow(2, false, 0, 10, 0, 15);
        x.setGroup(0, 1, true);
        x.setGroup(0, 0, (set & LEAVE_HOST) == 0);
        x.setGroup(3, 2, true);
        x.setGroup(3, 0, (set & ENTER_HOST) == 0);
        x.putRule(0, 0, false, (set & LEAVE_SUBNET) == 0, 0, 10, 0, 15);
        x.putRule(0, 1, true, (set & REPLY_ENTERS) == 0, 0, 10, 0, 15);
        x.putRule(2, 0, true, (set & ENTER_SUBNET) == 0, 0, 10, 0, 15);
        x.putRule(2, 1, false, (set & REPLY_LEAVES) == 0, 0, 10, 0, 15);
        x.setRoute(0, 256, 8, (set & ROUTE_THERE) == 0 ? 0 : -1);
        x.setRoute(2, 0, 8, (set & ROUTE_BACK) == 0 ? 0 : -1);
        return x;
    }

    /** "Its parts are, in this order": of those that are shut the first one is told, whichever they are. */
    private static void partsInOrder() {
        for (int set = 0; set < 512; set += 2) {
            CloudPaths x = shut(set);
            check.due("blocks, shut " + set, x.blocks(0, 3, 4), set);
            int first = set == 0 ? 0 : Integer.numberOfTrailingZeros(set);
            check.due("blockedBy, shut " + set, x.blockedBy(0, 3, 4), first);
        }
    }

    /** "The connection works if all parts let it through." */
    private static void worksIfAllPartsLetThrough() {
        for (int set = 0; set < 512; set += 2) {
            CloudPaths x = shut(set);
            check.due("ports, shut " + set, x.ports(0, 3), set == 0 ? 65535 : 0);
            check.due("reachedFrom, shut " + set, x.reachedFrom(3) & 1, set == 0 ? 1 : 0);
        }
    }

    /** "If both hosts are in the same subnet, the parts 2, 3, 4, 6, 7 and 8 let everything through." */
    private static void sameSubnet() {
        CloudPaths x = Clouds.open();
        x.putRule(0, 0, true, false, 0, 10, 0, 15);
        x.putRule(0, 0, false, false, 0, 10, 0, 15);
        x.setRoute(0, 0, 2, 0);
        check.due("ports within the subnet", x.ports(0, 1), 65535);
        check.due("blocks within the subnet", x.blocks(0, 1, 4), 0);
        check.due("blocks the other way", x.blocks(1, 0, 15), 0);
        check.due("the route that would not reach", x.routeFor(0, 2), 0);
        check.due("blocks out of the subnet", x.blocks(0, 2, 4), LEAVE_SUBNET + REPLY_ENTERS);
        check.due("blocks into the subnet", x.blocks(2, 0, 4), ENTER_SUBNET + REPLY_LEAVES);
    }

    /** The parts 1 and 5 are asked within a subnet, too. */
    private static void sameSubnetAsksGroups() {
        CloudPaths x = Clouds.open();
        x.setGroup(0, 0, false);
        check.due("a host without groups, out", x.blocks(0, 1, 4), LEAVE_HOST);
        check.due("a host without groups, in", x.blocks(1, 0, 4), ENTER_HOST);
        x.setGroup(1, 0, false);
        check.due("both", x.blocks(0, 1, 4), LEAVE_HOST + ENTER_HOST);
    }

    /** Two subnets of one network ask their lists. */
    private static void sameNetworkIsNotTheSameSubnet() {
        CloudPaths x = Clouds.apartAndOpen(6, 7);
        for (int subnet = 0; subnet < 2; subnet++) {
            x.putRule(subnet, 0, true, false, 0, 10, 0, 15);
            x.putRule(subnet, 0, false, false, 0, 10, 0, 15);
        }
        check.due("all lists", x.blocks(0, 1, 4), LEAVE_SUBNET + ENTER_SUBNET + REPLY_LEAVES + REPLY_ENTERS);
    }
}
