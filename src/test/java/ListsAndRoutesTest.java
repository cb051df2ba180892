import java.util.Arrays;

/** Promises 10 to 13: putRule, removeRule, setRoute, routeFor. A test's comment has its sentence. */
public final class ListsAndRoutesTest {
    private static final Check check = new Check("ListsAndRoutesTest");

    public static void main(String[] args) {
        putRuleAnswers();
        putRuleAtTheFirstPlace();
        putRuleAtTheLastPlace();
        putRuleInTheMiddle();
        putRuleDirections();
        putRulePorts();
        putRuleBlockSizes();
        putRuleOfNoSubnet();
        putRuleAtNoPlace();
        putRuleOfNoBlock();
        putRuleOfNoPorts();
        thirteenthRule();
        removeRule();
        removeRuleAnswers();
        removeRuleOfNoSubnet();
        removeRuleOfNoRule();
        setRouteInPlace();
        setRouteRemoves();
        setRouteRemovesNone();
        setRouteBlockSizes();
        setRouteOfNoSubnet();
        setRouteOfNoPeering();
        setRouteOfNoBlock();
        ninthRoute();
        fullTableWithoutANewRoute();
        routeFor();
        routeForLocal();
        routeForNone();
        routeForAddresses();
        routeForOfNoSubnet();
        routeForOfNoAddress();
        check.end();
    }

    // ---- putRule

    /** "Returns how many rules the list has then." */
    private static void putRuleAnswers() {
        CloudPaths x = Clouds.open();
        for (int i = 1; i <= 12; i++) {
            check.due("putRule, one more", x.putRule(0, i / 2, i % 2 == 0, i % 3 == 0, 0, 10, 0, 15), i);
        }
        check.due("putRule in another list", x.putRule(1, 0, false, false, 0, 10, 0, 15), 1);
    }

    /** "the place at which it stands then, 0 ..": there it goes ahead of all. */
    private static void putRuleAtTheFirstPlace() {
        CloudPaths x = Clouds.apartAndOpen(7, 8);
        x.putRule(0, 0, false, true, 8, 0, 0, 15);
        x.putRule(0, 0, false, false, 8, 0, 0, 3);
        check.due("ports behind the first place", x.ports(0, 1), 0b1111_1111_1111_0000);
        x.putRule(0, 0, false, true, 8, 0, 3, 5);
        check.due("ports behind the first place again", x.ports(0, 1), 0b1111_1111_1111_1000);
    }

    /** "the place at which it stands then, .. to the number of rules": there it goes behind all. */
    private static void putRuleAtTheLastPlace() {
        CloudPaths x = Clouds.apartAndOpen(7, 8);
        x.putRule(0, 0, false, true, 8, 0, 0, 3);
        x.putRule(0, 1, false, false, 8, 0, 3, 8);
        check.due("ports, the last one denies", x.ports(0, 1), 0b1111);
        x.putRule(0, 2, false, true, 8, 0, 0, 15);
        check.due("ports, the last one allows", x.ports(0, 1), 0b1111_1110_0000_1111);
        for (int i = 3; i < 12; i++) {
            check.due("the place of the number of rules", x.putRule(0, i, true, true, 0, 10, 0, 15), i + 1);
        }
    }

    /** "those from there on move back": each is found at its new place. */
    private static void putRuleInTheMiddle() {
        CloudPaths x = Clouds.apartAndOpen(7, 8);
        x.putRule(0, 0, false, true, 8, 0, 0, 0);
        x.putRule(0, 1, false, true, 8, 0, 1, 1);
        x.putRule(0, 2, false, true, 8, 0, 2, 2);
        x.putRule(0, 1, false, false, 8, 0, 0, 1);
        check.due("ahead of one and behind another", x.ports(0, 1), 0b101);
        x.putRule(0, 1, false, true, 8, 0, 3, 3);
        x.removeRule(0, 4);
        check.due("the last one moved back to place 4", x.ports(0, 1), 0b1001);
        x.removeRule(0, 2);
        check.due("the one that denies moved back to place 2", x.ports(0, 1), 0b1011);
        x.removeRule(0, 0);
        check.due("the first one did not move", x.ports(0, 1), 0b1010);
    }

    /** "whether it is for packets that come in; otherwise for those that go out", "whether it allows; .. denies" */
    private static void putRuleDirections() {
        int[] due = {4, 256, 4, 256};
        for (int i = 0; i < 4; i++) {
            CloudPaths x = Clouds.apartAndOpen(7, 8);
            boolean in = i % 2 == 1;
            x.putRule(0, 0, in, i > 1, 9, 0, 0, 15);
            check.due("the direction has a rule now", x.blocks(0, 1, 2), due[i]);
            x.putRule(0, 0, in, i > 1, 8, 0, 0, 15);
            check.due("a rule that has the address", x.blocks(0, 1, 2), i > 1 ? 0 : due[i]);
        }
    }

    /** "the first port, 0 to 15" and "the last port, first to 15" */
    private static void putRulePorts() {
        for (int first = 0; first < 16; first++) {
            for (int last = first; last < 16; last++) {
                CloudPaths x = Clouds.apartAndOpen(7, 8);
                x.putRule(0, 0, false, true, 8, 0, first, last);
                int set = (1 << last + 1) - (1 << first);
                check.due("allowed, " + first + " to " + last, x.ports(0, 1), set);
                x.removeRule(0, 0);
                x.putRule(0, 0, false, false, 8, 0, first, last);
                x.putRule(0, 1, false, true, 8, 0, 0, 15);
                check.due("denied, " + first + " to " + last, x.ports(0, 1), 65535 - set);
            }
        }
    }

    /** "the size of its block, 0 to 10" */
    private static void putRuleBlockSizes() {
        for (int size = 0; size <= 10; size++) {
            CloudPaths x = Clouds.open();
            int last = 1024 - (1 << size);
            check.due("the last block of size " + size, x.putRule(0, 0, true, true, last, size, 0, 0), 1);
        }
    }

    /** "Throws IndexOutOfBoundsException if there is no such subnet" */
    private static void putRuleOfNoSubnet() {
        for (int number : Clouds.NUMBERS_BELOW_AND_FAR) {
            String call = "putRule of subnet " + number;
            check.outOfBounds(call, Clouds::listed, x -> x.putRule(number, 0, true, true, 0, 10, 0, 15));
        }
        check.outOfBounds("putRule of subnet 3", Clouds::listed, x -> x.putRule(3, 0, true, true, 0, 10, 0, 15));
        check.outOfBounds("putRule of subnet 8", Clouds::full, x -> x.putRule(8, 0, true, true, 0, 10, 0, 15));
    }

    /** "Throws IndexOutOfBoundsException if there is no such .. place" */
    private static void putRuleAtNoPlace() {
        for (int number : Clouds.NUMBERS_BELOW_AND_FAR) {
            String call = "putRule at place " + number;
            check.outOfBounds(call, Clouds::listed, x -> x.putRule(0, number, true, true, 0, 10, 0, 15));
        }
        check.outOfBounds("putRule at place 1 of 0", Clouds::listed, x -> x.putRule(1, 1, true, true, 0, 10, 0, 15));
        check.outOfBounds("putRule at place 4 of 3", Clouds::listed, x -> x.putRule(0, 4, true, true, 0, 10, 0, 15));
        check.outOfBounds("putRule at place 13 of 12", Clouds::full, x -> x.putRule(0, 13, true, true, 0, 10, 0, 15));
        CloudPaths x = Clouds.full();
        x.removeRule(0, 0);
        check.outOfBounds("putRule at place 12 of 11", () -> x.putRule(0, 12, true, true, 0, 10, 0, 15));
        check.due("putRule at place 11 of 11", x.putRule(0, 11, true, true, 0, 10, 0, 15), 12);
    }

    /** "Throws IllegalArgumentException if base and size are no block of addresses" */
    private static void putRuleOfNoBlock() {
        for (int[] block : Clouds.NO_BLOCKS) {
            String call = "putRule of no block " + Arrays.toString(block);
            check.badArgument(call, Clouds::listed, x -> x.putRule(0, 0, true, false, block[0], block[1], 0, 15));
        }
    }

    /** "Throws IllegalArgumentException if .. first or last is out of range" */
    private static void putRuleOfNoPorts() {
        for (int[] range : Clouds.NO_PORTS) {
            String call = "putRule of no ports " + Arrays.toString(range);
            check.badArgument(call, Clouds::listed, x -> x.putRule(0, 0, false, false, 0, 10, range[0], range[1]));
        }
    }

    /** "Throws IllegalStateException if the list has 12 rules" */
    private static void thirteenthRule() {
        for (int place : new int[] {0, 6, 12}) {
            String call = "putRule, the thirteenth, at place " + place;
            check.badState(call, Clouds::full, x -> x.putRule(0, place, true, false, 0, 10, 0, 15));
        }
        CloudPaths x = Clouds.full();
        check.badState("putRule, the thirteenth", () -> x.putRule(0, 0, false, false, 0, 10, 0, 15));
        check.due("connections afterwards", x.ports(0, 3), 65535);
        check.due("putRule in another list", x.putRule(1, 0, true, true, 0, 10, 0, 15), 1);
        check.due("removeRule of the full one", x.removeRule(0, 0), 11);
        check.due("putRule afterwards", x.putRule(0, 0, false, false, 0, 10, 0, 15), 12);
    }

    // ---- removeRule

    /** "Removes a rule from the list of a subnet." */
    private static void removeRule() {
        CloudPaths x = Clouds.apartAndOpen(7, 8);
        x.putRule(0, 0, false, true, 8, 0, 0, 3);
        x.putRule(0, 1, false, false, 8, 0, 3, 9);
        x.putRule(0, 2, false, true, 8, 0, 6, 12);
        x.putRule(1, 0, true, true, 0, 10, 0, 15);
        check.due("ports with all of them", x.ports(0, 1), 0b1_1100_0000_1111);
        x.removeRule(0, 1);
        check.due("without the middle one", x.ports(0, 1), 0b1_1111_1100_1111);
        x.removeRule(0, 0);
        check.due("without the first one", x.ports(0, 1), 0b1_1111_1100_0000);
        x.removeRule(0, 0);
        check.due("without the last one", x.ports(0, 1), 65535);
        check.due("the other list keeps its rule", x.removeRule(1, 0), 0);
    }

    /** "Returns how many rules the list has then." */
    private static void removeRuleAnswers() {
        CloudPaths x = Clouds.full();
        for (int left = 11; left >= 0; left--) {
            check.due("removeRule, the last place", x.removeRule(0, left), left);
        }
    }

    /** "Throws IndexOutOfBoundsException if there is no such subnet" */
    private static void removeRuleOfNoSubnet() {
        for (int number : Clouds.NUMBERS_BELOW_AND_FAR) {
            check.outOfBounds("removeRule of subnet " + number, Clouds::full, x -> x.removeRule(number, 0));
        }
        check.outOfBounds("removeRule of subnet 3", Clouds::listed, x -> x.removeRule(3, 0));
        check.outOfBounds("removeRule of subnet 8", Clouds::full, x -> x.removeRule(8, 0));
    }

    /** "Throws IndexOutOfBoundsException if there is no such .. rule" */
    private static void removeRuleOfNoRule() {
        for (int number : Clouds.NUMBERS_BELOW_AND_FAR) {
            check.outOfBounds("removeRule at place " + number, Clouds::full, x -> x.removeRule(0, number));
        }
        check.outOfBounds("removeRule at place 12 of 12", Clouds::full, x -> x.removeRule(0, 12));
        check.outOfBounds("removeRule at place 0 of 0", Clouds::full, x -> x.removeRule(1, 0));
        CloudPaths x = Clouds.open();
        x.putRule(0, 0, true, false, 0, 10, 0, 15);
        check.outOfBounds("removeRule at place 1 of 1", () -> x.removeRule(0, 1));
        check.due("removeRule at place 0 of 1", x.removeRule(0, 0), 0);
        check.outOfBounds("removeRule at place 0, all removed", () -> x.removeRule(0, 0));
    }

    // ---- setRoute

    /** "Sets a route of a subnet, in place of one with the same block.", "Returns the peering before" */
    private static void setRouteInPlace() {
        CloudPaths x = Clouds.pairOfNetworks();
        x.addPeering(1, 0);
        check.due("a new one", x.setRoute(0, 256, 8, 1), -1);
        check.due("of another subnet", x.setRoute(1, 256, 8, 0), -1);
        check.due("with another peering", x.setRoute(0, 256, 8, 0), 1);
        check.due("routeFor afterwards", x.routeFor(0, 256), 0);
        check.due("with the same peering", x.setRoute(0, 256, 8, 0), 0);
        check.due("a smaller block from the same base", x.setRoute(0, 256, 7, 1), -1);
        check.due("a block of the same size behind it", x.setRoute(0, 384, 7, 1), -1);
        check.due("the first one stays", x.setRoute(0, 256, 8, 1), 0);
    }

    /** "the number of the peering, or -1 to remove the route" */
    private static void setRouteRemoves() {
        CloudPaths x = Clouds.pairOfNetworks();
        x.addPeering(1, 0);
        x.setRoute(0, 256, 8, 0);
        x.setRoute(1, 256, 8, 0);
        x.setRoute(0, 256, 7, 1);
        check.due("the smaller one", x.setRoute(0, 256, 7, -1), 1);
        check.due("routeFor afterwards", x.routeFor(0, 256), 0);
        check.due("the larger one", x.setRoute(0, 256, 8, -1), 0);
        check.due("routeFor without routes", x.routeFor(0, 256), -2);
        check.due("the other subnet's route stays", x.routeFor(1, 256), 0);
        check.due("it is a new one again", x.setRoute(0, 256, 8, 1), -1);
    }

    /** "-1 if there was no such route" */
    private static void setRouteRemovesNone() {
        CloudPaths x = Clouds.open();
        check.due("another base", x.setRoute(0, 0, 8, -1), -1);
        check.due("another size", x.setRoute(0, 256, 7, -1), -1);
        check.due("the local route's block", x.setRoute(0, 0, 8, -1), -1);
        check.due("the local route stays", x.routeFor(0, 0), -1);
        check.due("the route stays", x.setRoute(0, 256, 8, -1), 0);
        check.due("once more", x.setRoute(0, 256, 8, -1), -1);
    }

    /** "the size of its block, 0 to 10" */
    private static void setRouteBlockSizes() {
        for (int size = 0; size <= 10; size++) {
            CloudPaths x = Clouds.pairOfNetworks();
            check.due("the last block of size " + size, x.setRoute(0, 1024 - (1 << size), size, 0), -1);
            check.due("its last address", x.routeFor(0, 1023), 0);
        }
    }

    /** "Throws IndexOutOfBoundsException if there is no such subnet" */
    private static void setRouteOfNoSubnet() {
        for (int number : Clouds.NUMBERS_BELOW_AND_FAR) {
            check.outOfBounds("setRoute of subnet " + number, Clouds::listed, x -> x.setRoute(number, 0, 10, 0));
            check.outOfBounds("setRoute of subnet " + number, Clouds::listed, x -> x.setRoute(number, 256, 8, -1));
        }
        check.outOfBounds("setRoute of subnet 3", Clouds::listed, x -> x.setRoute(3, 256, 8, -1));
        check.outOfBounds("setRoute of subnet 8", Clouds::full, x -> x.setRoute(8, 0, 10, 0));
    }

    /** "Throws IndexOutOfBoundsException if .. peering is not -1 and there is no such peering" */
    private static void setRouteOfNoPeering() {
        for (int peering : new int[] {1, 6, -2, Integer.MIN_VALUE, Integer.MAX_VALUE}) {
            check.outOfBounds("a new route, peering " + peering, Clouds::listed, x -> x.setRoute(0, 0, 10, peering));
            check.outOfBounds("in place, peering " + peering, Clouds::listed, x -> x.setRoute(0, 256, 8, peering));
        }
        check.outOfBounds("a new route, peering 6", Clouds::full, x -> x.setRoute(1, 0, 10, 6));
        CloudPaths x = Clouds.full();
        check.due("a new route, peering 5", x.setRoute(1, 0, 10, 5), -1);
    }

    /** "Throws IllegalArgumentException if base and size are no block of addresses" */
    private static void setRouteOfNoBlock() {
        for (int[] block : Clouds.NO_BLOCKS) {
            String call = "setRoute of no block " + Arrays.toString(block);
            check.badArgument(call, Clouds::listed, x -> x.setRoute(0, block[0], block[1], 0));
            check.badArgument(call + " to remove", Clouds::listed, x -> x.setRoute(0, block[0], block[1], -1));
        }
    }

    /** "Throws IllegalStateException if it would be a new route and the table has 8" */
    private static void ninthRoute() {
        check.badState("setRoute(0, 1020, 0, 0), the ninth", Clouds::full, x -> x.setRoute(0, 1020, 0, 0));
        check.badState("setRoute(0, 0, 10, 5), the ninth", Clouds::full, x -> x.setRoute(0, 0, 10, 5));
        check.badState("setRoute(0, 256, 7, 0), the ninth", Clouds::full, x -> x.setRoute(0, 256, 7, 0));
        check.badState("setRoute, the ninth, the network's block", Clouds::full, x -> x.setRoute(0, 0, 8, 0));
        CloudPaths x = Clouds.full();
        check.due("setRoute in another table", x.setRoute(1, 0, 10, 5), -1);
        check.due("setRoute to remove one", x.setRoute(0, 1000, 0, -1), 0);
        check.due("setRoute, the eighth again", x.setRoute(0, 0, 10, 5), -1);
        check.badState("setRoute, the ninth again", () -> x.setRoute(0, 1000, 0, 0));
    }

    /** "if it would be a new route": one in place of another is none, nor is one that is removed. */
    private static void fullTableWithoutANewRoute() {
        CloudPaths x = Clouds.full();
        check.due("setRoute in place of the first one", x.setRoute(0, 256, 8, 3), 0);
        check.due("setRoute in place of the last one", x.setRoute(0, 1004, 0, 5), 4);
        check.due("setRoute to remove none", x.setRoute(0, 1020, 0, -1), -1);
        check.due("routeFor the first one", x.routeFor(0, 256), 3);
        check.due("routeFor the last one", x.routeFor(0, 1004), 5);
        check.badState("setRoute, the ninth", () -> x.setRoute(0, 1020, 0, 0));
    }

    // ---- routeFor

    /** "Returns the peering of the route that counts for an address in a subnet." */
    private static void routeFor() {
        CloudPaths x = new CloudPaths();
        x.addNetwork(0, 6);
        x.addNetwork(512, 6);
        x.addSubnet(0, 0, 4);
        for (int i = 0; i < 6; i++) {
            x.addPeering(0, 1);
        }
        x.setRoute(0, 512, 4, 3);
        x.setRoute(0, 0, 10, 5);
        x.setRoute(0, 516, 0, 1);
        x.setRoute(0, 512, 9, 4);
        x.setRoute(0, 512, 2, 2);
        int[] addresses = {0, 63, 64, 65, 511, 512, 513, 515, 516, 517, 519, 520, 527, 528, 575, 576, 1022, 1023};
        for (int address : addresses) {
            check.due("routeFor " + address, x.routeFor(0, address), expectedRoute(address));
        }
    }

    private static int expectedRoute(int address) {
        if (address < 64) {
            return -1;
        }
        if (address < 512) {
            return 5;
        }
        if (address < 516) {
            return 2;
        }
        if (address == 516) {
            return 1;
        }
        return address < 528 ? 3 : 4;
    }

    /** "-1 if it is the local one" */
    private static void routeForLocal() {
        CloudPaths x = Clouds.pairOfNetworks();
        check.due("the first address of the network", x.routeFor(1, 0), -1);
        check.due("the last address of the network", x.routeFor(1, 255), -1);
        check.due("the first address of the other network", x.routeFor(2, 256), -1);
        check.due("the last address of the other network", x.routeFor(2, 511), -1);
    }

    /** "-2 if there is none" */
    private static void routeForNone() {
        CloudPaths x = Clouds.pairOfNetworks();
        check.due("right behind the network", x.routeFor(1, 256), -2);
        check.due("right ahead of the network", x.routeFor(2, 255), -2);
        x.setRoute(2, 600, 3, 0);
        check.due("right ahead of a route", x.routeFor(2, 599), -2);
        check.due("the first address of a route", x.routeFor(2, 600), 0);
        check.due("the last address of a route", x.routeFor(2, 607), 0);
        check.due("right behind a route", x.routeFor(2, 608), -2);
    }

    /** "address: 0 to 1023" */
    private static void routeForAddresses() {
        CloudPaths x = Clouds.pairOfNetworks();
        check.due("the first address", x.routeFor(2, 0), -2);
        check.due("the last address", x.routeFor(2, 1023), -2);
        x.setRoute(2, 0, 10, 0);
        check.due("the first address with a route", x.routeFor(2, 0), 0);
        check.due("the last address with a route", x.routeFor(2, 1023), 0);
    }

    /** "Throws IndexOutOfBoundsException if there is no such subnet" */
    private static void routeForOfNoSubnet() {
        for (int number : Clouds.NUMBERS_BELOW_AND_FAR) {
            check.outOfBounds("routeFor of subnet " + number, Clouds::listed, x -> x.routeFor(number, 0));
        }
        check.outOfBounds("routeFor of subnet 3", Clouds::listed, x -> x.routeFor(3, 0));
        check.outOfBounds("routeFor of subnet 8", Clouds::full, x -> x.routeFor(8, 0));
    }

    /** "Throws IllegalArgumentException if address is out of range" */
    private static void routeForOfNoAddress() {
        for (int address : Clouds.NUMBERS_BELOW_AND_FAR) {
            check.badArgument("routeFor of address " + address, Clouds::listed, x -> x.routeFor(0, address));
        }
        check.badArgument("routeFor of address 1024", Clouds::listed, x -> x.routeFor(0, 1024));
        check.badArgument("routeFor of address 1280", Clouds::listed, x -> x.routeFor(0, 1280));
    }
}
