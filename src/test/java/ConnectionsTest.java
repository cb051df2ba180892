/** Promises 14 to 19: ports, blockedBy, blocks, pairs, reachedFrom, idleRules. A test's comment has its sentence. */
public final class ConnectionsTest {
    private static final Check check = new Check("ConnectionsTest");

    public static void main(String[] args) {
        ports();
        portsOfNoHost();
        portsBetweenTheSame();
        blockedBy();
        blockedByNothing();
        blockedByOfNoHost();
        blockedByBetweenTheSame();
        blockedByAtNoPort();
        blocks();
        blocksOfAllParts();
        blocksOfNoHost();
        blocksBetweenTheSame();
        blocksAtNoPort();
        pairs();
        pairsOfFewHosts();
        pairsOfTwelveHosts();
        pairsAtNoPort();
        reachedFrom();
        reachedFromByOnePort();
        reachedFromNoneAndAll();
        reachedFromOfNoHost();
        idleRulesOfAnEmptyList();
        idleRules();
        idleRulesOfOneDirection();
        idleRulesBehind();
        idleRulesByUnionOfBlocks();
        idleRulesByUnionOfPorts();
        idleRulesGapOfOneAddress();
        idleRulesOfAFullList();
        idleRulesOfNoSubnet();
        check.end();
    }

    // ---- what three of the calls refuse

    private interface Asker {
        int ask(CloudPaths x, int from, int to, int port);
    }

    private static final Asker PORTS = (x, from, to, port) -> x.ports(from, to);
    private static final Asker BLOCKED_BY = (x, from, to, port) -> x.blockedBy(from, to, port);
    private static final Asker BLOCKS = (x, from, to, port) -> x.blocks(from, to, port);

    private static void noHost(String name, Asker call) {
        for (int number : Clouds.NUMBERS_BELOW_AND_FAR) {
            check.outOfBounds(name + " from " + number, Clouds::listed, x -> call.ask(x, number, 0, 0));
            check.outOfBounds(name + " to " + number, Clouds::listed, x -> call.ask(x, 0, number, 0));
        }
        check.outOfBounds(name + " from 4", Clouds::listed, x -> call.ask(x, 4, 0, 0));
        check.outOfBounds(name + " to 4", Clouds::listed, x -> call.ask(x, 0, 4, 0));
        check.outOfBounds(name + " from 12", Clouds::full, x -> call.ask(x, 12, 0, 0));
        check.outOfBounds(name + " to 12", Clouds::full, x -> call.ask(x, 0, 12, 0));
    }

    private static void betweenTheSame(String name, Asker call) {
        check.badArgument(name + " of the first host and itself", Clouds::listed, x -> call.ask(x, 0, 0, 0));
        check.badArgument(name + " of the last host and itself", Clouds::listed, x -> call.ask(x, 3, 3, 15));
    }

    private static void atNoPort(String name, Asker call) {
        for (int port : Clouds.NUMBERS_BELOW_AND_FAR) {
            check.badArgument(name + " at " + port, Clouds::listed, x -> call.ask(x, 0, 1, port));
        }
        check.badArgument(name + " at 16", Clouds::listed, x -> call.ask(x, 0, 1, 16));
        check.badArgument(name + " at 32", Clouds::listed, x -> call.ask(x, 0, 1, 32));
    }

    // ---- ports

    /** "Returns the set of ports.": none, one, the first and the last one, all. */
    private static void ports() {
        CloudPaths x = Clouds.apartAndOpen(7, 8);
        check.due("all of them", x.ports(0, 1), 65535);
        x.putRule(0, 0, false, true, 8, 0, 0, 0);
        check.due("the first one", x.ports(0, 1), 1);
        x.putRule(0, 0, false, true, 8, 0, 15, 15);
        check.due("the first and the last one", x.ports(0, 1), 32769);
        x.putRule(0, 0, false, false, 8, 0, 0, 0);
        check.due("the last one", x.ports(0, 1), 32768);
        x.putRule(0, 0, false, false, 8, 0, 15, 15);
        check.due("none of them", x.ports(0, 1), 0);
    }

    /** "Throws IndexOutOfBoundsException if there is no such host" */
    private static void portsOfNoHost() {
        noHost("ports", PORTS);
    }

    /** "Throws IllegalArgumentException if both are the same" */
    private static void portsBetweenTheSame() {
        betweenTheSame("ports", PORTS);
    }

    // ---- blockedBy

    /** Of the open cloud, one part is shut for the connection from host 0 to host 3. */
    private static CloudPaths shut(int part) {
        CloudPaths x = Clouds.open();
        x.addGroup();
        switch (part) {
            case 1:
                x.allow(1, true, 0, 10, 0, 15);
                x.allow(1, false, 0, 8, 0, 15);
                x.setGroup(0, 1, true);
                x.setGroup(0, 0, false);
                break;
            case 2:
                x.putRule(0, 0, false, true, 0, 8, 0, 15);
                break;
            case 3:
                x.setRoute(0, 256, 8, -1);
                break;
            case 4:
                x.putRule(2, 0, true, false, 1, 0, 0, 14);
                x.putRule(2, 1, true, true, 0, 10, 0, 15);
                break;
            case 5:
                x.allow(1, true, 2, 1, 0, 15);
                x.allow(1, false, 0, 10, 0, 15);
                x.setGroup(3, 1, true);
                x.setGroup(3, 0, false);
                break;
            case 6:
                x.putRule(2, 0, false, true, 0, 10, 0, 14);
                break;
            case 7:
                x.setRoute(2, 0, 8, -1);
                break;
            default:
                x.putRule(0, 0, true, false, 257, 0, 15, 15);
                x.putRule(0, 1, true, true, 0, 10, 0, 15);
                break;
        }
        return x;
    }

    /** "Returns the number of the part": each of the eight. */
    private static void blockedBy() {
        for (int part = 1; part <= 8; part++) {
            CloudPaths x = shut(part);
            check.due("blockedBy, part " + part + " shut", x.blockedBy(0, 3, 0), part);
            check.due("ports, part " + part + " shut", x.ports(0, 3), part == 4 ? 32768 : 0);
        }
    }

    /** "0 if it works.", "port: 0 to 15" */
    private static void blockedByNothing() {
        CloudPaths x = Clouds.open();
        check.due("at the first port", x.blockedBy(0, 3, 0), 0);
        check.due("at the last port", x.blockedBy(0, 3, 15), 0);
        check.due("at the last port, shut for the others", shut(4).blockedBy(0, 3, 15), 0);
    }

    /** "Throws IndexOutOfBoundsException if there is no such host" */
    private static void blockedByOfNoHost() {
        noHost("blockedBy", BLOCKED_BY);
    }

    /** "Throws IllegalArgumentException if both are the same" */
    private static void blockedByBetweenTheSame() {
        betweenTheSame("blockedBy", BLOCKED_BY);
    }

    /** "Throws IllegalArgumentException if .. port is out of range" */
    private static void blockedByAtNoPort() {
        atNoPort("blockedBy", BLOCKED_BY);
    }

    // ---- blocks

    /** "Returns the sum of 2 to the power of the number of each part.", "port: 0 to 15" */
    private static void blocks() {
        CloudPaths x = Clouds.open();
        check.due("none at the first port", x.blocks(0, 3, 0), 0);
        check.due("none at the last port", x.blocks(0, 3, 15), 0);
        for (int part = 1; part <= 8; part++) {
            check.due("part " + part + " at the first port", shut(part).blocks(0, 3, 0), 1 << part);
            check.due("part " + part + " at the last port", shut(part).blocks(0, 3, 15), part == 4 ? 0 : 1 << part);
        }
    }

    /** "all parts of a connection that do not let it through, each asked by itself" */
    private static void blocksOfAllParts() {
        CloudPaths x = Clouds.pairOfNetworks();
        for (int subnet = 0; subnet <= 2; subnet += 2) {
            x.putRule(subnet, 0, false, false, 0, 0, 0, 0);
            x.putRule(subnet, 0, true, false, 0, 0, 0, 0);
        }
        check.due("all eight", x.blocks(0, 3, 9), 510);
        check.due("the first one of them", x.blockedBy(0, 3, 9), 1);
        x.putRule(2, 0, true, true, 1, 0, 9, 9);
        check.due("all but the fourth", x.blocks(0, 3, 9), 510 - 16);
    }

    /** "Throws IndexOutOfBoundsException if there is no such host" */
    private static void blocksOfNoHost() {
        noHost("blocks", BLOCKS);
    }

    /** "Throws IllegalArgumentException if both are the same" */
    private static void blocksBetweenTheSame() {
        betweenTheSame("blocks", BLOCKS);
    }

    /** "Throws IllegalArgumentException if .. port is out of range" */
    private static void blocksAtNoPort() {
        atNoPort("blocks", BLOCKS);
    }

    // ---- pairs

    /** "Counts the pairs of a host and another one, in this order", "port: 0 to 15" */
    private static void pairs() {
        CloudPaths x = Clouds.open();
        check.due("all of them at the first port", x.pairs(0), 12);
        check.due("all of them at the last port", x.pairs(15), 12);
        x.putRule(2, 0, true, false, 2, 0, 4, 4);
        x.putRule(2, 1, true, true, 0, 10, 0, 15);
        check.due("at a port that is denied one way", x.pairs(4), 11);
        check.due("at another port", x.pairs(5), 12);
        x.setGroup(3, 0, false);
        check.due("without one host", x.pairs(4), 6);
    }

    /** "a host and another one": none without hosts and none with one host. */
    private static void pairsOfFewHosts() {
        CloudPaths x = new CloudPaths();
        x.addGroup();
        x.allow(0, true, 0, 10, 0, 15);
        x.allow(0, false, 0, 10, 0, 15);
        x.addNetwork(0, 10);
        x.addSubnet(0, 0, 10);
        check.due("no host", x.pairs(0), 0);
        x.addHost(0, 0);
        x.setGroup(0, 0, true);
        check.due("one host", x.pairs(0), 0);
        x.addHost(0, 1023);
        check.due("two hosts, one of them in no group", x.pairs(0), 0);
        x.setGroup(1, 0, true);
        check.due("two hosts", x.pairs(0), 2);
    }

    /** Of twelve hosts, as many as there may be, each goes to eleven others. */
    private static void pairsOfTwelveHosts() {
        CloudPaths x = twelveHosts();
        check.due("all of them", x.pairs(15), 132);
        x.setGroup(11, 0, false);
        check.due("without the last host", x.pairs(15), 110);
    }

    private static CloudPaths twelveHosts() {
        CloudPaths x = new CloudPaths();
        x.addGroup();
        x.allow(0, true, 0, 10, 0, 15);
        x.allow(0, false, 0, 10, 0, 15);
        x.addNetwork(0, 10);
        x.addSubnet(0, 0, 10);
        for (int host = 0; host < 12; host++) {
            x.addHost(0, 1023 - host);
            x.setGroup(host, 0, true);
        }
        return x;
    }

    /** "Throws IllegalArgumentException if port is out of range" */
    private static void pairsAtNoPort() {
        for (int port : Clouds.NUMBERS_BELOW_AND_FAR) {
            check.badArgument("pairs at " + port, Clouds::listed, x -> x.pairs(port));
        }
        check.badArgument("pairs at 16", Clouds::listed, x -> x.pairs(16));
        check.badArgument("pairs at 32", Clouds::listed, x -> x.pairs(32));
        CloudPaths empty = new CloudPaths();
        check.badArgument("pairs at 16 without hosts", () -> empty.pairs(16));
    }

    // ---- reachedFrom

    /** "Returns the sum of 2 to the power of the number of each.": the host itself is none of them. */
    private static void reachedFrom() {
        CloudPaths x = Clouds.open();
        check.due("the first host", x.reachedFrom(0), 14);
        check.due("the second host", x.reachedFrom(1), 13);
        check.due("the last host", x.reachedFrom(3), 7);
    }

    /** "at one port or more" */
    private static void reachedFromByOnePort() {
        for (int port = 0; port < 16; port++) {
            CloudPaths x = Clouds.apartAndOpen(7, 8);
            x.putRule(0, 0, false, true, 8, 0, port, port);
            check.due("at port " + port + " alone", x.reachedFrom(1), 1);
            check.due("the other way, port " + port + " alone for the reply", x.reachedFrom(0), port == 15 ? 2 : 0);
            x.putRule(0, 0, false, false, 8, 0, port, port);
            check.due("at none", x.reachedFrom(1), 0);
        }
    }

    /** From none, from one host alone, and from eleven others, as many as there may be. */
    private static void reachedFromNoneAndAll() {
        CloudPaths x = twelveHosts();
        check.due("the first host from all", x.reachedFrom(0), 4094);
        check.due("the last host from all", x.reachedFrom(11), 2047);
        for (int host = 1; host < 11; host++) {
            x.setGroup(host, 0, false);
        }
        check.due("the first host from the last one", x.reachedFrom(0), 2048);
        check.due("the last host from the first one", x.reachedFrom(11), 1);
        check.due("a host that lets nothing in", x.reachedFrom(5), 0);
    }

    /** "Throws IndexOutOfBoundsException if there is no such host" */
    private static void reachedFromOfNoHost() {
        for (int number : Clouds.NUMBERS_BELOW_AND_FAR) {
            check.outOfBounds("reachedFrom to " + number, Clouds::listed, x -> x.reachedFrom(number));
        }
        check.outOfBounds("reachedFrom to 4", Clouds::listed, x -> x.reachedFrom(4));
        check.outOfBounds("reachedFrom to 12", Clouds::full, x -> x.reachedFrom(12));
    }

    // ---- idleRules

    /** "Returns the number of rules.": none of an empty list or of one rule. */
    private static void idleRulesOfAnEmptyList() {
        CloudPaths x = Clouds.open();
        check.due("no rule", x.idleRules(2), 0);
        x.putRule(2, 0, true, true, 0, 0, 0, 0);
        check.due("one rule", x.idleRules(2), 0);
        check.due("another subnet", x.idleRules(0), 0);
    }

    /** "no packet meets: for each address and port of theirs": one more of either is met. */
    private static void idleRules() {
        CloudPaths x = Clouds.open();
        x.putRule(2, 0, true, true, 64, 6, 4, 8);
        x.putRule(2, 1, true, false, 64, 6, 4, 8);
        check.due("the same again", x.idleRules(2), 1);
        x.putRule(2, 2, true, true, 127, 0, 5, 5);
        check.due("one within", x.idleRules(2), 2);
        x.putRule(2, 3, true, true, 127, 0, 8, 9);
        check.due("a port more", x.idleRules(2), 2);
        x.putRule(2, 4, true, true, 64, 6, 3, 8);
        check.due("a port less", x.idleRules(2), 2);
        x.putRule(2, 5, true, true, 0, 7, 4, 8);
        check.due("a larger block, the addresses ahead", x.idleRules(2), 2);
        x.putRule(2, 6, true, true, 128, 0, 4, 8);
        check.due("the address right behind", x.idleRules(2), 2);
        x.putRule(2, 7, true, true, 63, 0, 4, 8);
        check.due("the address right ahead, within the larger block", x.idleRules(2), 3);
    }

    /** "some earlier rule of their direction" */
    private static void idleRulesOfOneDirection() {
        CloudPaths x = Clouds.open();
        x.putRule(2, 0, true, true, 0, 10, 0, 15);
        x.putRule(2, 1, false, true, 64, 6, 4, 8);
        check.due("an earlier one inwards, one outwards", x.idleRules(2), 0);
        x.putRule(2, 2, false, false, 64, 6, 4, 8);
        check.due("an earlier one outwards, one outwards", x.idleRules(2), 1);
        x.putRule(2, 3, true, false, 64, 6, 4, 8);
        check.due("an earlier one inwards, one inwards", x.idleRules(2), 2);
    }

    /** "some earlier rule .. stands ahead": one behind does not count, nor does the rule itself. */
    private static void idleRulesBehind() {
        CloudPaths x = Clouds.open();
        x.putRule(0, 0, true, true, 64, 6, 4, 8);
        x.putRule(0, 1, true, true, 0, 10, 0, 15);
        check.due("a larger one behind", x.idleRules(0), 0);
        x.putRule(0, 0, true, true, 0, 10, 0, 15);
        check.due("a larger one put ahead", x.idleRules(0), 2);
        x.removeRule(0, 0);
        check.due("and removed", x.idleRules(0), 0);
    }

    /** "not necessarily the same one for all": for all addresses. */
    private static void idleRulesByUnionOfBlocks() {
        CloudPaths x = Clouds.open();
        x.putRule(0, 0, true, true, 512, 8, 0, 15);
        x.putRule(0, 1, true, false, 768, 7, 0, 15);
        x.putRule(0, 2, true, true, 512, 9, 0, 15);
        check.due("a gap at the end", x.idleRules(0), 0);
        x.putRule(0, 2, true, true, 896, 7, 0, 15);
        check.due("no gap", x.idleRules(0), 1);
        x.removeRule(0, 1);
        check.due("a gap in the middle", x.idleRules(0), 0);
        x.putRule(0, 0, true, false, 768, 7, 0, 15);
        check.due("no gap in another order", x.idleRules(0), 1);
        x.removeRule(0, 1);
        check.due("a gap at the start", x.idleRules(0), 0);
    }

    /** "not necessarily the same one for all": for all ports. */
    private static void idleRulesByUnionOfPorts() {
        CloudPaths x = Clouds.open();
        x.putRule(0, 0, true, true, 512, 9, 0, 7);
        x.putRule(0, 1, true, false, 512, 9, 8, 14);
        x.putRule(0, 2, true, true, 512, 9, 0, 15);
        check.due("a gap of the last port", x.idleRules(0), 0);
        x.putRule(0, 2, true, true, 512, 8, 15, 15);
        check.due("a gap of the last port in half of the block", x.idleRules(0), 0);
        x.putRule(0, 3, true, true, 768, 8, 15, 15);
        check.due("no gap", x.idleRules(0), 1);
        x.removeRule(0, 0);
        check.due("a gap of the first ports", x.idleRules(0), 0);
        x.putRule(0, 0, true, true, 512, 9, 0, 6);
        check.due("a gap of one port in the middle", x.idleRules(0), 0);
    }

    private static void idleRulesGapOfOneAddress() {
        for (int gap = 0; gap < 8; gap++) {
            CloudPaths x = Clouds.open();
            for (int address = 0; address < 8; address++) {
                if (address != gap) {
                    x.putRule(0, 0, true, true, 1016 + address, 0, 0, 15);
                }
            }
            x.putRule(0, 7, true, true, 1016, 3, 0, 15);
            check.due("address " + gap + " left", x.idleRules(0), 0);
            x.putRule(0, 7, false, true, 1016 + gap, 0, 0, 15);
            check.due("address " + gap + " in the other direction", x.idleRules(0), 0);
            x.putRule(0, 7, true, true, 1016 + gap, 0, 0, 15);
            check.due("address " + gap + " filled", x.idleRules(0), 1);
        }
    }

    /** Twelve rules, as many as there may be: all but the first one idle. */
    private static void idleRulesOfAFullList() {
        CloudPaths x = Clouds.open();
        for (int i = 0; i < 12; i++) {
            x.putRule(0, i, true, i % 2 == 0, 0, 10, 0, 15);
        }
        check.due("all the same", x.idleRules(0), 11);
        for (int i = 0; i < 12; i++) {
            x.removeRule(0, 0);
            x.putRule(0, 11, true, false, 64 * i, 6, i, 15);
        }
        check.due("each with a block of its own", x.idleRules(0), 0);
    }

    /** "Throws IndexOutOfBoundsException if there is no such subnet" */
    private static void idleRulesOfNoSubnet() {
        for (int number : Clouds.NUMBERS_BELOW_AND_FAR) {
            check.outOfBounds("idleRules of " + number, Clouds::listed, x -> x.idleRules(number));
        }
        check.outOfBounds("idleRules of 3", Clouds::listed, x -> x.idleRules(3));
        check.outOfBounds("idleRules of 8", Clouds::full, x -> x.idleRules(8));
    }
}
