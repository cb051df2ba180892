import java.util.Arrays;

/** Promises 6 to 9: addGroup, allow, clearGroup, setGroup. A test's comment has its sentence. */
public final class GroupsTest {
    private static final Check check = new Check("GroupsTest");

    public static void main(String[] args) {
        newGroup();
        groupNumbers();
        seventhGroup();
        allowAnswers();
        allowBlockSizes();
        allowPorts();
        allowDirections();
        allowOfNoGroup();
        allowOfNoBlock();
        allowOfNoPorts();
        eleventhRule();
        clearGroup();
        clearGroupAnswers();
        clearGroupOfNoGroup();
        setGroup();
        setGroupAnswers();
        setGroupOfNoHost();
        setGroupOfNoGroup();
        check.end();
    }

    /** "Adds a group without rules." */
    private static void newGroup() {
        CloudPaths x = Clouds.open();
        x.addGroup();
        x.setGroup(0, 0, false);
        check.due("it has no host", x.setGroup(0, 1, true), false);
        check.due("a rule outwards of it", x.blocks(0, 1, 3), 2);
        check.due("a rule inwards of it", x.blocks(1, 0, 3), 32);
        check.due("how many rules it has", x.clearGroup(1), 0);
    }

    /** "Returns its number." */
    private static void groupNumbers() {
        CloudPaths x = new CloudPaths();
        for (int i = 0; i < 6; i++) {
            check.due("one more", x.addGroup(), i);
            check.due("a rule of it", x.allow(i, true, 0, 0, 0, 0), 1);
        }
    }

    /** "Throws IllegalStateException if there are 6" */
    private static void seventhGroup() {
        check.badState("addGroup, the seventh", Clouds::full, x -> x.addGroup());
        CloudPaths x = Clouds.full();
        check.badState("addGroup, the seventh", () -> x.addGroup());
        x.clearGroup(5);
        check.badState("addGroup, the seventh behind an empty one", () -> x.addGroup());
        check.outOfBounds("the refused one", () -> x.clearGroup(6));
    }

    // ---- allow

    /** "Returns how many rules the group has then." */
    private static void allowAnswers() {
        CloudPaths x = new CloudPaths();
        x.addGroup();
        x.addGroup();
        for (int i = 1; i <= 10; i++) {
            check.due("allow, one more", x.allow(0, i % 2 == 0, 0, 10, 0, 15), i);
        }
        check.due("allow in the other group", x.allow(1, false, 0, 10, 0, 15), 1);
    }

    /** "the size of its block, 0 to 10" */
    private static void allowBlockSizes() {
        for (int size = 0; size <= 10; size++) {
            CloudPaths x = Clouds.open();
            check.due("the last block of size " + size, x.allow(0, true, 1024 - (1 << size), size, 0, 0), 3);
        }
    }

    /** "the first port, 0 to 15" and "the last port, first to 15": each range gives its ports and no other. */
    private static void allowPorts() {
        for (int first = 0; first < 16; first++) {
            for (int last = first; last < 16; last++) {
                CloudPaths x = Clouds.open();
                x.addGroup();
                x.setGroup(1, 0, false);
                x.setGroup(1, 1, true);
                x.allow(1, true, 0, 10, first, last);
                x.allow(1, false, 0, 10, 0, 15);
                check.due("ports " + first + " to " + last + " inwards", x.ports(0, 1), rangeSet(first, last));
                x.clearGroup(1);
                x.allow(1, false, 0, 10, first, last);
                check.due("ports " + first + " to " + last + " outwards", x.ports(1, 0), rangeSet(first, last));
            }
        }
    }

    private static int rangeSet(int first, int last) {
        int set = 0;
        for (int port = first; port <= last; port++) {
            set += 1 << port;
        }
        return set;
    }

    /** "whether it is inwards; otherwise it is outwards" */
    private static void allowDirections() {
        CloudPaths x = Clouds.apart(7, 8);
        x.allow(0, true, 0, 10, 0, 15);
        check.due("a rule inwards alone", x.blocks(0, 1, 4), 2);
        x.clearGroup(0);
        x.allow(0, false, 0, 10, 0, 15);
        check.due("a rule outwards alone", x.blocks(0, 1, 4), 32);
    }

    /** "Throws IndexOutOfBoundsException if there is no such group" */
    private static void allowOfNoGroup() {
        for (int group : Clouds.NUMBERS_BELOW_AND_FAR) {
            check.outOfBounds("allow in group " + group, Clouds::listed, x -> x.allow(group, true, 0, 10, 0, 15));
        }
        check.outOfBounds("allow in group 1", Clouds::listed, x -> x.allow(1, true, 0, 10, 0, 15));
        check.outOfBounds("allow in group 6", Clouds::full, x -> x.allow(6, true, 0, 10, 0, 15));
    }

    /** "Throws IllegalArgumentException if base and size are no block of addresses" */
    private static void allowOfNoBlock() {
        for (int[] block : Clouds.NO_BLOCKS) {
            String call = "allow of no block " + Arrays.toString(block);
            check.badArgument(call, Clouds::listed, x -> x.allow(0, true, block[0], block[1], 0, 15));
        }
    }

    /** "Throws IllegalArgumentException if .. first or last is out of range" */
    private static void allowOfNoPorts() {
        for (int[] range : Clouds.NO_PORTS) {
            String call = "allow of no ports " + Arrays.toString(range);
            check.badArgument(call, Clouds::listed, x -> x.allow(0, false, 0, 10, range[0], range[1]));
        }
    }

    /** "Throws IllegalStateException if the group has 10 rules" */
    private static void eleventhRule() {
        check.badState("allow inwards, the eleventh", Clouds::full, x -> x.allow(0, true, 0, 10, 0, 15));
        check.badState("allow outwards, the eleventh", Clouds::full, x -> x.allow(0, false, 1, 0, 0, 0));
        CloudPaths x = Clouds.full();
        check.badState("allow, the eleventh", () -> x.allow(0, true, 0, 10, 0, 15));
        check.due("allow in another group", x.allow(1, true, 0, 10, 0, 15), 2);
        check.due("clearGroup of the full one", x.clearGroup(0), 10);
        check.due("allow afterwards", x.allow(0, true, 0, 10, 0, 15), 1);
    }

    // ---- clearGroup

    /** "Removes all rules of a group." */
    private static void clearGroup() {
        CloudPaths x = Clouds.open();
        x.addGroup();
        x.allow(1, true, 0, 10, 3, 3);
        check.due("ports ahead", x.ports(0, 1), 65535);
        x.clearGroup(0);
        check.due("a rule outwards afterwards", x.blocks(0, 1, 3), 2 + 32);
        check.due("the hosts stay in the group", x.setGroup(0, 0, true), true);
        check.due("allow afterwards", x.allow(0, false, 0, 10, 3, 3), 1);
        check.due("the other group keeps its rule", x.allow(1, true, 0, 10, 3, 3), 2);
    }

    /** "Returns how many rules it had." */
    private static void clearGroupAnswers() {
        CloudPaths x = Clouds.full();
        check.due("clearGroup of ten", x.clearGroup(0), 10);
        check.due("clearGroup of none", x.clearGroup(0), 0);
        check.due("clearGroup of one", x.clearGroup(5), 1);
    }

    /** "Throws IndexOutOfBoundsException if there is no such group" */
    private static void clearGroupOfNoGroup() {
        for (int group : Clouds.NUMBERS_BELOW_AND_FAR) {
            check.outOfBounds("clearGroup of " + group, Clouds::listed, x -> x.clearGroup(group));
        }
        check.outOfBounds("clearGroup of 1", Clouds::listed, x -> x.clearGroup(1));
        check.outOfBounds("clearGroup of 6", Clouds::full, x -> x.clearGroup(6));
    }

    // ---- setGroup

    /** "whether it is in the group from now on" */
    private static void setGroup() {
        CloudPaths x = Clouds.open();
        x.setGroup(0, 0, false);
        check.due("taken out", x.blocks(0, 1, 0), 2);
        check.due("another host stays", x.blocks(1, 2, 0), 0);
        x.setGroup(0, 0, false);
        check.due("taken out twice", x.blocks(0, 1, 0), 2);
        x.setGroup(0, 0, true);
        check.due("put in", x.blocks(0, 1, 0), 0);
        x.setGroup(0, 0, true);
        check.due("put in twice", x.blocks(0, 1, 0), 0);
        x.setGroup(0, 0, false);
        check.due("put in twice, taken out once", x.blocks(0, 1, 0), 2);
    }

    /** "Returns whether it was." */
    private static void setGroupAnswers() {
        CloudPaths x = Clouds.pairOfNetworks();
        for (int group = 0; group < 6; group++) {
            x.addGroup();
        }
        for (int group = 5; group >= 0; group--) {
            check.due("out of a group in which it is not", x.setGroup(1, group, false), false);
            check.due("into it", x.setGroup(1, group, true), false);
            check.due("into it again", x.setGroup(1, group, true), true);
            check.due("another host into it", x.setGroup(0, group, true), false);
            check.due("out of it", x.setGroup(1, group, false), true);
            check.due("out of it again", x.setGroup(1, group, false), false);
            check.due("the other host is still in it", x.setGroup(0, group, true), true);
        }
        check.due("the first group stays", x.setGroup(0, 5, true), true);
    }

    /** "Throws IndexOutOfBoundsException if there is no such host" */
    private static void setGroupOfNoHost() {
        for (int host : Clouds.NUMBERS_BELOW_AND_FAR) {
            check.outOfBounds("setGroup of host " + host, Clouds::listed, x -> x.setGroup(host, 0, false));
        }
        check.outOfBounds("setGroup of host 4", Clouds::listed, x -> x.setGroup(4, 0, false));
        check.outOfBounds("setGroup of host 12", Clouds::full, x -> x.setGroup(12, 0, false));
    }

    /** "Throws IndexOutOfBoundsException if there is no such .. group" */
    private static void setGroupOfNoGroup() {
        int[] wrapped = {1, 32, 64, -32};
        for (boolean in : new boolean[] {true, false}) {
            for (int group : Clouds.NUMBERS_BELOW_AND_FAR) {
                check.outOfBounds("setGroup of group " + group, Clouds::listed, x -> x.setGroup(0, group, in));
            }
            for (int group : wrapped) {
                check.outOfBounds("setGroup of group " + group, Clouds::listed, x -> x.setGroup(0, group, in));
            }
            check.outOfBounds("setGroup of group 6", Clouds::full, x -> x.setGroup(0, 6, in));
        }
        CloudPaths x = Clouds.open();
        check.outOfBounds("setGroup of the next group", () -> x.setGroup(0, 1, true));
        x.addGroup();
        check.due("setGroup of it once it is there", x.setGroup(0, 1, false), false);
    }
}
