/** Promises 14 to 19: ports, blockedBy, blocks, pairs, reachedFrom, idleRules. */
public final class ConnectionsTest {
    private static final Check check = new Check("ConnectionsTest");

    public static void main(String[] args) {
        everyPartByItself();
        sameSubnet();
        listsWithRulesOfOneDirection();
        listsDoNotRemember();
        peeringsDoNotPassOn();
        routesInsideTheNetwork();
        portsRefuses();
        blockedByRefuses();
        blocksRefuses();
        pairs();
        reachedFrom();
        lastHost();
        idleRules();
        idleRulesByUnion();
        idleRulesRefuses();
        check.end();
    }

    /** Of the open cloud, one part is shut for the connection from host 0 to host 3. */
    private static CloudPaths shut(int part) {
        CloudPaths x = Clouds.open();
        x.addGroup();
        switch (part) {
            case 1:
                x.allow(1, true, 0, 10, 0, 15);
                x.allow(1, false, 0, 8, 0, 15);
                x.setGroup(0, 1, true);
                x.setGroup(0, 0, false);
                break;
            case 2:
                x.putRule(0, 0, false, true, 0, 8, 0, 15);
                break;
            case 3:
                x.setRoute(0, 256, 8, -1);
                break;
            case 4:
                x.putRule(2, 0, true, false, 1, 0, 0, 14);
                x.putRule(2, 1, true, true, 0, 10, 0, 15);
                break;
            case 5:
                x.allow(1, true, 2, 1, 0, 15);
                x.allow(1, false, 0, 10, 0, 15);
                x.setGroup(3, 1, true);
                x.setGroup(3, 0, false);
                break;
            case 6:
                x.putRule(2, 0, false, true, 0, 10, 0, 14);
                break;
            case 7:
                x.setRoute(2, 0, 8, -1);
                break;
            default:
                x.putRule(0, 0, true, false, 257, 0, 15, 15);
                x.putRule(0, 1, true, true, 0, 10, 0, 15);
                break;
        }
        return x;
    }

    private static void everyPartByItself() {
        CloudPaths open = Clouds.open();
        check.due("ports of an open way", open.ports(0, 3), 65535);
        check.due("blockedBy of an open way", open.blockedBy(0, 3, 15), 0);
        check.due("blocks of an open way", open.blocks(0, 3, 0), 0);
        for (int part = 1; part <= 8; part++) {
            CloudPaths x = shut(part);
            check.due("ports, part " + part + " shut", x.ports(0, 3), part == 4 ? 32768 : 0);
            check.due("blockedBy, part " + part + " shut", x.blockedBy(0, 3, 3), part);
            check.due("blocks, part " + part + " shut", x.blocks(0, 3, 3), 1 << part);
            check.due("blocks at port 15", x.blocks(0, 3, 15), part == 4 ? 0 : 1 << part);
        }
        CloudPaths none = Clouds.pairOfNetworks();
        none.putRule(0, 0, false, false, 0, 0, 0, 0);
        none.putRule(0, 0, true, false, 0, 0, 0, 0);
        none.putRule(2, 0, false, false, 0, 0, 0, 0);
        none.putRule(2, 0, true, false, 0, 0, 0, 0);
        check.due("blocks, all parts shut", none.blocks(0, 3, 9), 510);
        check.due("blockedBy, all parts shut", none.blockedBy(0, 3, 9), 1);
    }

    private static void sameSubnet() {
        CloudPaths x = Clouds.open();
        x.putRule(0, 0, true, false, 0, 10, 0, 15);
        x.putRule(0, 0, false, false, 0, 10, 0, 15);
        x.setRoute(0, 0, 2, 0);
        check.due("ports within a subnet", x.ports(0, 1), 65535);
        check.due("blocks within a subnet", x.blocks(1, 0, 4), 0);
        check.due("blocks out of it", x.blocks(0, 2, 4), 4 + 256);
        check.due("blocks into it", x.blocks(2, 0, 4), 16 + 64);
        x.setGroup(0, 0, false);
        check.due("blocks within a subnet, no group outwards", x.blocks(0, 1, 4), 2);
        check.due("blockedBy within a subnet, no group inwards", x.blockedBy(1, 0, 4), 5);
    }

    private static void listsWithRulesOfOneDirection() {
        CloudPaths x = Clouds.open();
        x.putRule(0, 0, false, true, 64, 6, 2, 4);
        check.due("denied if no rule has the port", x.ports(0, 2), 0b11100);
        check.due("denied if no rule has the address", x.ports(0, 3), 0);
        check.due("the other direction has no rule", x.blocks(2, 0, 3), 64);
        x.putRule(0, 1, false, true, 65, 0, 15, 15);
        check.due("the reply has the port 15", x.ports(2, 0), 65535);
        x.removeRule(0, 0);
        check.due("connections at port 15", x.ports(0, 2), 32768);
        x.putRule(0, 0, false, false, 65, 0, 15, 15);
        check.due("the first rule denies", x.ports(0, 2), 0);
        check.due("the reply is denied", x.blocks(2, 0, 3), 64);
    }

    private static void listsDoNotRemember() {
        CloudPaths x = Clouds.open();
        x.putRule(2, 0, true, true, 1, 0, 7, 7);
        check.due("a connection in", x.ports(0, 3), 128);
        check.due("a connection out, its reply is denied", x.blocks(3, 0, 7), 256);
        x.putRule(2, 1, true, true, 1, 0, 15, 15);
        check.due("a connection out, its reply is allowed", x.blocks(3, 0, 7), 0);
        check.due("connections in", x.ports(0, 3), 128 + 32768);
        check.due("by the address of the other host", x.blocks(3, 1, 7), 256);
        check.due("connections in from the other host", x.ports(1, 3), 0);
    }

    private static CloudPaths chain() {
        CloudPaths x = new CloudPaths();
        x.addGroup();
        x.allow(0, true, 0, 10, 7, 7);
        x.allow(0, false, 0, 10, 7, 8);
        for (int i = 0; i < 3; i++) {
            x.addNetwork(256 * i, 8);
            x.addSubnet(i, 256 * i, 8);
            x.addHost(i, 256 * i);
            x.setGroup(i, 0, true);
        }
        x.addPeering(0, 1);
        x.addPeering(1, 2);
        return x;
    }

    private static void peeringsDoNotPassOn() {
        CloudPaths x = chain();
        x.setRoute(0, 0, 10, 0);
        x.setRoute(1, 0, 9, 0);
        x.setRoute(1, 512, 9, 1);
        x.setRoute(2, 0, 10, 1);
        check.due("one peering", x.ports(0, 1), 128);
        check.due("the same peering back", x.ports(1, 0), 128);
        check.due("the other peering", x.ports(1, 2), 128);
        check.due("the other peering back", x.ports(2, 1), 128);
        check.due("two peerings", x.blocks(0, 2, 7), 8 + 128);
        check.due("two peerings back", x.blocks(2, 0, 7), 8 + 128);
        x.setRoute(0, 512, 8, 1);
        check.due("a peering of other networks", x.blocks(0, 2, 7), 8 + 128);
        x.addPeering(2, 0);
        x.setRoute(0, 512, 8, 2);
        check.due("a peering of their own", x.blocks(0, 2, 7), 128);
        x.setRoute(2, 0, 0, 2);
        check.due("and back", x.ports(0, 2), 128);
        x.setRoute(0, 512, 0, 0);
        check.due("a smaller route that does not reach", x.blocks(0, 2, 7), 8);
    }

    private static void routesInsideTheNetwork() {
        CloudPaths x = Clouds.open();
        check.due("by the local route", x.ports(0, 2), 65535);
        x.setRoute(0, 0, 8, 0);
        check.due("the local route goes ahead", x.ports(0, 2), 65535);
        x.setRoute(0, 64, 6, 0);
        check.due("an address in the same network by a peering", x.blocks(0, 2, 1), 8);
        check.due("and on the way back", x.blocks(2, 0, 1), 128);
    }

    private static void portsRefuses() {
        CloudPaths x = Clouds.open();
        for (int number : Clouds.NUMBERS_BELOW_AND_FAR) {
            check.outOfBounds("ports from " + number, () -> x.ports(number, 0));
            check.outOfBounds("ports to " + number, () -> x.ports(0, number));
            check.outOfBounds("ports between the same", () -> x.ports(number, number));
        }
        check.outOfBounds("ports from 4", () -> x.ports(4, 4));
        check.outOfBounds("ports to 4", () -> x.ports(0, 4));
        check.badArgument("ports between the same", () -> x.ports(3, 3));
    }

    private static void blockedByRefuses() {
        CloudPaths x = Clouds.open();
        for (int number : Clouds.NUMBERS_BELOW_AND_FAR) {
            check.outOfBounds("blockedBy from " + number, () -> x.blockedBy(number, 0, 16));
            check.outOfBounds("blockedBy to " + number, () -> x.blockedBy(0, number, 0));
            check.badArgument("blockedBy at " + number, () -> x.blockedBy(0, 1, number));
        }
        check.outOfBounds("blockedBy from 4", () -> x.blockedBy(4, 4, 0));
        check.outOfBounds("blockedBy to 4", () -> x.blockedBy(0, 4, 0));
        check.badArgument("blockedBy between the same", () -> x.blockedBy(3, 3, 0));
        check.badArgument("blockedBy at 16", () -> x.blockedBy(0, 1, 16));
        check.badArgument("blockedBy at 32", () -> x.blockedBy(0, 1, 32));
    }

    private static void blocksRefuses() {
        CloudPaths x = Clouds.open();
        for (int number : Clouds.NUMBERS_BELOW_AND_FAR) {
            check.outOfBounds("blocks from " + number, () -> x.blocks(number, 0, 16));
            check.outOfBounds("blocks to " + number, () -> x.blocks(0, number, 0));
            check.badArgument("blocks at " + number, () -> x.blocks(0, 1, number));
        }
        check.outOfBounds("blocks from 4", () -> x.blocks(4, 4, 0));
        check.outOfBounds("blocks to 4", () -> x.blocks(0, 4, 0));
        check.badArgument("blocks between the same", () -> x.blocks(3, 3, 0));
        check.badArgument("blocks at 16", () -> x.blocks(0, 1, 16));
        check.badArgument("blocks at 32", () -> x.blocks(0, 1, 32));
    }

    private static void pairs() {
        CloudPaths x = Clouds.open();
        check.due("pairs, all open", x.pairs(0), 12);
        check.due("pairs, all open, the last port", x.pairs(15), 12);
        x.putRule(2, 0, true, false, 2, 0, 4, 4);
        x.putRule(2, 1, true, true, 0, 10, 0, 15);
        check.due("pairs at the port that is denied one way", x.pairs(4), 11);
        check.due("pairs at another port", x.pairs(5), 12);
        x.setGroup(3, 0, false);
        check.due("pairs without one host", x.pairs(4), 6);
        for (int port : Clouds.NUMBERS_BELOW_AND_FAR) {
            check.badArgument("pairs at " + port, () -> x.pairs(port));
        }
        check.badArgument("pairs at 16", () -> x.pairs(16));
        check.badArgument("pairs at 32", () -> x.pairs(32));
    }

    private static void reachedFrom() {
        CloudPaths x = Clouds.open();
        check.due("reachedFrom, all but itself", x.reachedFrom(0), 14);
        check.due("reachedFrom, all but the last", x.reachedFrom(3), 7);
        x.putRule(2, 0, true, false, 2, 0, 0, 14);
        x.putRule(2, 1, true, true, 0, 10, 0, 15);
        check.due("reachedFrom by one port alone", x.reachedFrom(3), 7);
        x.putRule(2, 0, true, false, 2, 0, 15, 15);
        check.due("reachedFrom by no port", x.reachedFrom(3), 5);
        x.setGroup(3, 0, false);
        check.due("reachedFrom, nothing comes in", x.reachedFrom(3), 0);
        check.due("reachedFrom, nothing goes out", x.reachedFrom(0), 6);
        for (int number : Clouds.NUMBERS_BELOW_AND_FAR) {
            check.outOfBounds("reachedFrom to " + number, () -> x.reachedFrom(number));
        }
        check.outOfBounds("reachedFrom to 4", () -> x.reachedFrom(4));
    }

    private static void lastHost() {
        CloudPaths x = new CloudPaths();
        x.addNetwork(0, 10);
        x.addSubnet(0, 0, 10);
        for (int i = 0; i < 6; i++) {
            x.addGroup();
        }
        x.allow(5, true, 0, 10, 0, 0);
        x.allow(4, false, 0, 10, 0, 15);
        for (int host = 0; host < 12; host++) {
            x.addHost(0, 1023 - host);
            x.setGroup(host, host == 0 ? 5 : 4, true);
        }
        check.due("reachedFrom, twelve hosts", x.reachedFrom(0), 4094);
        check.due("pairs, twelve hosts", x.pairs(0), 11);
        x.setGroup(0, 4, true);
        x.setGroup(11, 5, true);
        check.due("reachedFrom of the last host", x.reachedFrom(11), 2047);
        check.due("pairs, both hosts", x.pairs(0), 22);
    }

    private static void idleRules() {
        CloudPaths x = Clouds.open();
        check.due("idleRules of no rules", x.idleRules(2), 0);
        x.putRule(2, 0, true, true, 64, 6, 4, 8);
        check.due("idleRules of one", x.idleRules(2), 0);
        x.putRule(2, 1, true, false, 64, 6, 4, 8);
        check.due("idleRules, the same again", x.idleRules(2), 1);
        x.putRule(2, 2, false, false, 64, 6, 4, 8);
        check.due("idleRules, another direction", x.idleRules(2), 1);
        x.putRule(2, 3, true, true, 127, 0, 5, 5);
        check.due("idleRules, one within", x.idleRules(2), 2);
        x.putRule(2, 4, true, true, 127, 0, 8, 9);
        check.due("idleRules, a port more", x.idleRules(2), 2);
        x.putRule(2, 5, true, true, 64, 6, 3, 8);
        check.due("idleRules, a port less", x.idleRules(2), 2);
        x.putRule(2, 6, true, true, 0, 7, 4, 8);
        check.due("idleRules, a larger block", x.idleRules(2), 2);
        x.putRule(2, 0, true, true, 0, 10, 0, 15);
        check.due("idleRules, all of a direction", x.idleRules(2), 6);
        check.due("idleRules of another subnet", x.idleRules(0), 0);
        x.removeRule(2, 0);
        check.due("idleRules afterwards", x.idleRules(2), 2);
    }

    private static void idleRulesByUnion() {
        CloudPaths x = Clouds.open();
        x.putRule(0, 0, true, true, 512, 8, 0, 15);
        x.putRule(0, 1, true, false, 768, 8, 0, 7);
        x.putRule(0, 2, true, true, 768, 7, 8, 15);
        x.putRule(0, 3, true, true, 896, 7, 8, 15);
        x.putRule(0, 4, true, true, 512, 9, 0, 15);
        check.due("idleRules, blocks and ports that add up", x.idleRules(0), 1);
        x.removeRule(0, 3);
        check.due("idleRules, a gap at the end", x.idleRules(0), 0);
        x.putRule(0, 3, true, true, 896, 6, 8, 15);
        x.putRule(0, 3, true, true, 960, 5, 8, 15);
        x.putRule(0, 3, true, true, 992, 5, 8, 14);
        check.due("idleRules, a gap of one port", x.idleRules(0), 0);
        x.putRule(0, 3, true, true, 992, 5, 15, 15);
        check.due("idleRules, no gap", x.idleRules(0), 1);
        x.removeRule(0, 0);
        check.due("idleRules, a gap at the start", x.idleRules(0), 0);
        x.putRule(0, 7, true, true, 512, 8, 0, 15);
        check.due("idleRules, one behind does not count", x.idleRules(0), 1);

        CloudPaths y = Clouds.open();
        y.putRule(0, 0, true, true, 0, 0, 0, 15);
        y.putRule(0, 1, true, true, 2, 1, 0, 15);
        y.putRule(0, 2, true, true, 0, 2, 0, 15);
        check.due("idleRules, a gap of one address", y.idleRules(0), 0);
        y.putRule(0, 2, false, true, 1, 0, 0, 15);
        check.due("idleRules, a gap that another direction has", y.idleRules(0), 0);
        y.putRule(0, 2, true, true, 1, 0, 0, 15);
        check.due("idleRules, the gap filled", y.idleRules(0), 1);
    }

    private static void idleRulesRefuses() {
        CloudPaths x = Clouds.open();
        for (int number : Clouds.NUMBERS_BELOW_AND_FAR) {
            check.outOfBounds("idleRules of " + number, () -> x.idleRules(number));
        }
        check.outOfBounds("idleRules of 3", () -> x.idleRules(3));
    }
}
