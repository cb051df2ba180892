/** Promises 6 to 9: addGroup, allow, clearGroup, setGroup. */
public final class GroupsTest {
    private static final Check check = new Check("GroupsTest");

    public static void main(String[] args) {
        addGroup();
        allow();
        allowRefuses();
        allowGivesPorts();
        clearGroup();
        setGroup();
        setGroupRefuses();
        groupsAddUp();
        check.end();
    }

    private static void addGroup() {
        CloudPaths x = Clouds.pairOfNetworks();
        for (int i = 0; i < 6; i++) {
            check.due("addGroup, one more", x.addGroup(), i);
            check.due("a new group has no rules", x.clearGroup(i), 0);
            check.due("a new group has no hosts", x.setGroup(0, i, false), false);
        }
        check.badState("addGroup, the seventh", () -> x.addGroup());
        check.outOfBounds("clearGroup of the refused one", () -> x.clearGroup(6));
    }

    private static void allow() {
        CloudPaths x = new CloudPaths();
        x.addGroup();
        x.addGroup();
        for (int i = 1; i <= 10; i++) {
            check.due("allow, one more", x.allow(0, i % 2 == 0, 0, 10, 0, 15), i);
        }
        check.badState("allow, the eleventh", () -> x.allow(0, true, 0, 0, 0, 0));
        check.badArgument("allow, the eleventh of no block", () -> x.allow(0, true, 1, 1, 0, 0));
        check.badArgument("allow, the eleventh of no ports", () -> x.allow(0, true, 0, 0, 1, 0));
        check.outOfBounds("allow, the eleventh of no group", () -> x.allow(2, true, 1, 1, 1, 0));
        check.due("allow in the other group", x.allow(1, false, 1023, 0, 15, 15), 1);
        check.due("clearGroup after refusals", x.clearGroup(0), 10);
    }

    private static void allowRefuses() {
        CloudPaths x = new CloudPaths();
        x.addGroup();
        for (int group : Clouds.NUMBERS_BELOW_AND_FAR) {
            check.outOfBounds("allow in group " + group, () -> x.allow(group, true, 0, 10, 0, 15));
        }
        check.outOfBounds("allow in group 1", () -> x.allow(1, true, 0, -1, 0, 15));
        for (int[] block : Clouds.NO_BLOCKS) {
            check.badArgument("allow of no block", () -> x.allow(0, true, block[0], block[1], 0, 15));
        }
        for (int[] range : Clouds.NO_PORTS) {
            check.badArgument("allow of no ports", () -> x.allow(0, false, 0, 10, range[0], range[1]));
        }
        check.due("clearGroup after refusals", x.clearGroup(0), 0);
    }

    private static void allowGivesPorts() {
        for (int first = 0; first < 16; first++) {
            for (int last = first; last < 16; last++) {
                CloudPaths x = Clouds.pairOfNetworks();
                x.addGroup();
                x.setGroup(0, 0, true);
                x.setGroup(1, 0, true);
                x.allow(0, false, 0, 10, 0, 15);
                x.allow(0, true, 0, 1, first, last);
                check.due("ports of a rule inwards", x.ports(0, 1), rangeSet(first, last));
                check.due("ports of a rule inwards, its block's edge", x.ports(1, 0), 0);
                x.clearGroup(0);
                x.allow(0, true, 0, 10, 0, 15);
                x.allow(0, false, 2, 0, first, last);
                check.due("ports of a rule outwards", x.ports(0, 1), rangeSet(first, last));
                check.due("ports of a rule outwards, its block's edge", x.ports(1, 0), 0);
            }
        }
    }

    private static int rangeSet(int first, int last) {
        int set = 0;
        for (int port = first; port <= last; port++) {
            set += 1 << port;
        }
        return set;
    }

    private static void clearGroup() {
        CloudPaths x = Clouds.open();
        x.addGroup();
        x.allow(1, true, 0, 10, 3, 3);
        check.due("ports ahead", x.ports(0, 1), 65535);
        check.due("clearGroup", x.clearGroup(0), 2);
        check.due("ports afterwards", x.ports(0, 1), 0);
        check.due("clearGroup again", x.clearGroup(0), 0);
        check.due("the hosts stay in the group", x.setGroup(0, 0, true), true);
        check.due("allow afterwards", x.allow(0, true, 0, 10, 3, 3), 1);
        check.due("clearGroup of the other group", x.clearGroup(1), 1);
        for (int group : Clouds.NUMBERS_BELOW_AND_FAR) {
            check.outOfBounds("clearGroup of " + group, () -> x.clearGroup(group));
        }
        check.outOfBounds("clearGroup of 2", () -> x.clearGroup(2));
    }

    private static void setGroup() {
        CloudPaths x = Clouds.pairOfNetworks();
        for (int i = 0; i < 6; i++) {
            x.addGroup();
        }
        check.due("setGroup out of a group in which it is not", x.setGroup(1, 5, false), false);
        check.due("setGroup into it", x.setGroup(1, 5, true), false);
        check.due("setGroup into it again", x.setGroup(1, 5, true), true);
        check.due("setGroup of another group", x.setGroup(1, 0, true), false);
        check.due("setGroup of another host", x.setGroup(0, 5, true), false);
        check.due("setGroup out of it", x.setGroup(1, 5, false), true);
        check.due("setGroup out of it again", x.setGroup(1, 5, false), false);
        check.due("the other group stays", x.setGroup(1, 0, true), true);
        check.due("the other host stays", x.setGroup(0, 5, true), true);
    }

    private static void setGroupRefuses() {
        CloudPaths x = Clouds.pairOfNetworks();
        x.addGroup();
        for (int number : Clouds.NUMBERS_BELOW_AND_FAR) {
            check.outOfBounds("setGroup of host " + number, () -> x.setGroup(number, 0, true));
            check.outOfBounds("setGroup of group " + number, () -> x.setGroup(0, number, true));
        }
        check.outOfBounds("setGroup of host 4", () -> x.setGroup(4, 0, true));
        check.outOfBounds("setGroup of group 1", () -> x.setGroup(0, 1, true));
        check.outOfBounds("setGroup of group 32, the same place in a word", () -> x.setGroup(0, 32, true));
        check.due("setGroup after refusals", x.setGroup(0, 0, false), false);
        x.addGroup();
        check.due("setGroup of the next group after refusals", x.setGroup(0, 1, false), false);
    }

    private static void groupsAddUp() {
        CloudPaths x = Clouds.pairOfNetworks();
        x.addGroup();
        x.addGroup();
        x.allow(0, false, 0, 10, 0, 3);
        x.allow(1, false, 0, 10, 8, 9);
        x.allow(1, true, 0, 10, 2, 8);
        x.allow(1, true, 0, 0, 15, 15);
        x.setGroup(0, 0, true);
        x.setGroup(1, 1, true);
        check.due("one group outwards", x.ports(0, 1), 0b1100);
        x.setGroup(0, 1, true);
        check.due("two groups outwards", x.ports(0, 1), 0b1_0000_1100);
        x.setGroup(0, 0, false);
        check.due("the other group outwards", x.ports(0, 1), 0b1_0000_0000);
        check.due("replies are not asked for groups", x.blocks(0, 1, 8), 0);
        check.due("the other way", x.blocks(1, 0, 8), 0);
        x.allow(1, false, 2, 0, 6, 6);
        check.due("two rules of one group", x.ports(0, 1), 0b1_0100_0000);
        x.setGroup(0, 1, false);
        check.due("a host without groups lets nothing out", x.blocks(0, 1, 8), 2);
        check.due("a host without groups lets nothing in", x.blocks(1, 0, 8), 32);
    }
}
