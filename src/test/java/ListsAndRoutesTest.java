/** Promises 10 to 13: putRule, removeRule, setRoute, routeFor. */
public final class ListsAndRoutesTest {
    private static final Check check = new Check("ListsAndRoutesTest");

    public static void main(String[] args) {
        putRule();
        putRuleRefuses();
        putRulePlaces();
        removeRule();
        setRoute();
        setRouteFull();
        setRouteRefuses();
        routeFor();
        routeForLocal();
        routeForRefuses();
        check.end();
    }

    private static void putRule() {
        CloudPaths x = Clouds.open();
        for (int i = 1; i <= 12; i++) {
            check.due("putRule, one more", x.putRule(0, i - 1, i % 2 == 0, i % 3 == 0, 0, 10, 0, 15), i);
        }
        check.badState("putRule, the thirteenth", () -> x.putRule(0, 12, true, true, 0, 0, 0, 0));
        check.badState("putRule, the thirteenth, at the front", () -> x.putRule(0, 0, true, true, 0, 0, 0, 0));
        check.outOfBounds("putRule, the thirteenth, beyond", () -> x.putRule(0, 13, true, true, 0, 0, 0, 0));
        check.badArgument("putRule, the thirteenth, no block", () -> x.putRule(0, 0, true, true, 1, 1, 0, 0));
        check.badArgument("putRule, the thirteenth, no ports", () -> x.putRule(0, 0, true, true, 0, 0, 1, 0));
        check.due("putRule in another list", x.putRule(1, 0, false, false, 1023, 0, 15, 15), 1);
        check.due("removeRule after refusals", x.removeRule(0, 11), 11);
    }

    private static void putRuleRefuses() {
        CloudPaths x = Clouds.open();
        for (int number : Clouds.NUMBERS_BELOW_AND_FAR) {
            check.outOfBounds("putRule of subnet " + number, () -> x.putRule(number, 0, true, true, 1, 1, 0, 0));
            check.outOfBounds("putRule at place " + number, () -> x.putRule(0, number, true, true, 1, 1, 0, 0));
        }
        check.outOfBounds("putRule of subnet 3", () -> x.putRule(3, 0, true, true, 0, 0, 0, 0));
        check.outOfBounds("putRule at place 1 of an empty list", () -> x.putRule(0, 1, true, true, 0, 0, 0, 0));
        for (int[] block : Clouds.NO_BLOCKS) {
            check.badArgument("putRule of no block", () -> x.putRule(0, 0, true, false, block[0], block[1], 0, 15));
        }
        for (int[] range : Clouds.NO_PORTS) {
            check.badArgument("putRule of no ports", () -> x.putRule(0, 0, false, false, 0, 10, range[0], range[1]));
        }
        check.due("connections after refusals", x.ports(0, 2), 65535);
        check.outOfBounds("removeRule after refusals", () -> x.removeRule(0, 0));
    }

    /** Which rule stands at which place is seen by the ports that the first one decides. */
    private static void putRulePlaces() {
        CloudPaths x = Clouds.open();
        x.putRule(0, 0, false, true, 64, 6, 0, 3);
        x.putRule(0, 1, false, false, 64, 6, 3, 9);
        x.putRule(0, 2, false, true, 64, 6, 6, 12);
        x.putRule(0, 0, true, true, 0, 10, 15, 15);
        check.due("in the order in which they stand", x.ports(0, 2), 0b1_1100_0000_1111);
        x.putRule(0, 2, false, false, 65, 0, 0, 0);
        check.due("one put behind the first", x.ports(0, 2), 0b1_1100_0000_1111);
        x.putRule(0, 1, false, false, 65, 0, 0, 0);
        check.due("one put ahead of the first", x.ports(0, 2), 0b1_1100_0000_1110);
        x.putRule(0, 6, false, true, 65, 0, 13, 13);
        check.due("one put at the end", x.ports(0, 2), 0b11_1100_0000_1110);
        x.putRule(0, 0, false, true, 64, 0, 0, 15);
        check.due("one that has not the address", x.ports(0, 2), 0b11_1100_0000_1110);
        x.putRule(0, 1, false, true, 64, 1, 5, 5);
        check.due("one that has it", x.ports(0, 2), 0b11_1100_0010_1110);
    }

    private static void removeRule() {
        CloudPaths x = Clouds.open();
        check.outOfBounds("removeRule of an empty list", () -> x.removeRule(0, 0));
        x.putRule(0, 0, false, true, 64, 6, 0, 3);
        x.putRule(0, 1, false, false, 64, 6, 3, 9);
        x.putRule(0, 2, false, true, 64, 6, 6, 12);
        for (int number : Clouds.NUMBERS_BELOW_AND_FAR) {
            check.outOfBounds("removeRule of subnet " + number, () -> x.removeRule(number, 0));
            check.outOfBounds("removeRule at place " + number, () -> x.removeRule(0, number));
        }
        check.outOfBounds("removeRule of subnet 3", () -> x.removeRule(3, 0));
        check.outOfBounds("removeRule at place 3", () -> x.removeRule(0, 3));
        check.outOfBounds("removeRule of another list", () -> x.removeRule(1, 0));
        check.due("ports after refusals", x.ports(0, 2), 0b1_1100_0000_1111);
        check.due("removeRule of the middle one", x.removeRule(0, 1), 2);
        check.due("ports without the middle one", x.ports(0, 2), 0b1_1111_1100_1111);
        check.due("removeRule of the first one", x.removeRule(0, 0), 1);
        check.due("ports without the first one", x.ports(0, 2), 0b1_1111_1100_0000);
        check.outOfBounds("removeRule of a place that was", () -> x.removeRule(0, 1));
        check.due("removeRule of the last one", x.removeRule(0, 0), 0);
        check.due("ports without rules", x.ports(0, 2), 65535);
        check.outOfBounds("removeRule of the emptied list", () -> x.removeRule(0, 0));
    }

    private static void setRoute() {
        CloudPaths x = Clouds.pairOfNetworks();
        x.addPeering(1, 0);
        check.due("setRoute, new", x.setRoute(0, 256, 8, 1), -1);
        check.due("setRoute of another subnet", x.setRoute(1, 256, 8, 0), -1);
        check.due("setRoute with another peering", x.setRoute(0, 256, 8, 0), 1);
        check.due("routeFor afterwards", x.routeFor(0, 256), 0);
        check.due("setRoute with the same peering", x.setRoute(0, 256, 8, 0), 0);
        check.due("setRoute, a smaller block from the same base", x.setRoute(0, 256, 7, 1), -1);
        check.due("routeFor of the smaller block", x.routeFor(0, 383), 1);
        check.due("routeFor of the larger block", x.routeFor(0, 384), 0);
        check.due("setRoute to remove none", x.setRoute(0, 384, 7, -1), -1);
        check.due("setRoute to remove", x.setRoute(0, 256, 7, -1), 1);
        check.due("routeFor of what is left", x.routeFor(0, 256), 0);
        check.due("setRoute to remove again", x.setRoute(0, 256, 7, -1), -1);
        check.due("setRoute to remove the last one", x.setRoute(0, 256, 8, -1), 0);
        check.due("routeFor without routes", x.routeFor(0, 256), -2);
        check.due("the other subnet's route stays", x.routeFor(1, 256), 0);
    }

    private static void setRouteFull() {
        CloudPaths x = Clouds.pairOfNetworks();
        x.addPeering(0, 1);
        check.due("setRoute with the block of the network", x.setRoute(0, 0, 8, 0), -1);
        for (int i = 1; i < 8; i++) {
            check.due("setRoute, one more", x.setRoute(0, 512 + i, 0, 0), -1);
        }
        check.badState("setRoute, the ninth", () -> x.setRoute(0, 520, 0, 0));
        check.due("setRoute to remove none of a full table", x.setRoute(0, 520, 0, -1), -1);
        check.due("setRoute in place of one in a full table", x.setRoute(0, 513, 0, 1), 0);
        check.badArgument("setRoute, the ninth, no block", () -> x.setRoute(0, 1, 1, 0));
        check.outOfBounds("setRoute, the ninth, no peering", () -> x.setRoute(0, 1, 1, 2));
        check.due("setRoute to remove the network's block", x.setRoute(0, 0, 8, -1), 0);
        check.due("the refused route is not there", x.routeFor(0, 520), -2);
        check.due("setRoute, the eighth again", x.setRoute(0, 520, 0, 1), -1);
        check.badState("setRoute, the ninth again", () -> x.setRoute(0, 0, 8, 0));
        check.due("the local route is always there", x.routeFor(0, 0), -1);
    }

    private static void setRouteRefuses() {
        CloudPaths x = Clouds.pairOfNetworks();
        for (int number : Clouds.NUMBERS_BELOW_AND_FAR) {
            check.outOfBounds("setRoute of subnet " + number, () -> x.setRoute(number, 0, 10, 0));
        }
        check.outOfBounds("setRoute of subnet 3", () -> x.setRoute(3, 1, 1, -1));
        int[] noPeerings = {1, 6, -2, Integer.MIN_VALUE, Integer.MAX_VALUE};
        for (int peering : noPeerings) {
            check.outOfBounds("setRoute of peering " + peering, () -> x.setRoute(0, 1, 1, peering));
        }
        for (int[] block : Clouds.NO_BLOCKS) {
            check.badArgument("setRoute of no block", () -> x.setRoute(0, block[0], block[1], 0));
            check.badArgument("setRoute to remove no block", () -> x.setRoute(0, block[0], block[1], -1));
        }
        check.due("routeFor after refusals", x.routeFor(0, 1023), -2);
    }

    private static void routeFor() {
        CloudPaths x = new CloudPaths();
        x.addNetwork(0, 6);
        x.addNetwork(512, 6);
        x.addSubnet(0, 0, 4);
        for (int i = 0; i < 6; i++) {
            x.addPeering(0, 1);
        }
        x.setRoute(0, 512, 4, 3);
        x.setRoute(0, 0, 10, 5);
        x.setRoute(0, 516, 0, 1);
        x.setRoute(0, 512, 9, 4);
        x.setRoute(0, 512, 2, 2);
        int[] addresses = {0, 63, 64, 65, 511, 512, 513, 515, 516, 517, 519, 520, 527, 528, 575, 576, 1022, 1023};
        for (int address : addresses) {
            check.due("routeFor " + address, x.routeFor(0, address), expectedRoute(address));
        }
    }

    private static int expectedRoute(int address) {
        if (address < 64) {
            return -1;
        }
        if (address < 512) {
            return 5;
        }
        if (address < 516) {
            return 2;
        }
        if (address == 516) {
            return 1;
        }
        return address < 528 ? 3 : 4;
    }

    private static void routeForLocal() {
        CloudPaths x = Clouds.pairOfNetworks();
        check.due("the first address of the network", x.routeFor(1, 0), -1);
        check.due("the last address of the network", x.routeFor(1, 255), -1);
        check.due("beyond the network", x.routeFor(1, 256), -2);
        check.due("ahead of the network", x.routeFor(2, 255), -2);
        check.due("the last address", x.routeFor(2, 1023), -2);
        x.setRoute(1, 0, 8, 0);
        check.due("the local route goes ahead of the same block", x.routeFor(1, 255), -1);
        x.setRoute(1, 0, 9, 0);
        check.due("the local route goes ahead of a larger block", x.routeFor(1, 255), -1);
        check.due("a larger block beyond the network", x.routeFor(1, 256), 0);
        x.setRoute(1, 128, 7, 0);
        check.due("a smaller block goes ahead of the local route", x.routeFor(1, 255), 0);
        check.due("beside the smaller block", x.routeFor(1, 127), -1);
    }

    private static void routeForRefuses() {
        CloudPaths x = Clouds.pairOfNetworks();
        for (int number : Clouds.NUMBERS_BELOW_AND_FAR) {
            check.outOfBounds("routeFor of subnet " + number, () -> x.routeFor(number, -1));
            check.badArgument("routeFor of address " + number, () -> x.routeFor(0, number));
        }
        check.outOfBounds("routeFor of subnet 3", () -> x.routeFor(3, 0));
        check.badArgument("routeFor of address 1024", () -> x.routeFor(0, 1024));
    }
}
