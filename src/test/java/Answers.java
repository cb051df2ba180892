import java.util.ArrayList;
import java.util.Arrays;
import java.util.List;

/**
 * What a cloud answers to a fixed row of calls that goes through all it can be asked. Many calls of the row change the
 * cloud, since how much there is of something shows only when it is added to or taken away; and some are refused. So
 * the row is asked in two orders: what a refused call does wrong is seen in one of them ahead of the row's own ones.
 */
final class Answers {
    /** The document promises nothing beyond 512 calls; the clouds of the tests are made with fewer than 110. */
    private static final int MOST = 400;
    private static final int PARTS = 7;
    private static final int[] ADDRESSES = {0, 63, 127, 255, 257, 511, 513, 770, 1000, 1023};
    private static final int[] HOSTS = {0, 1, 3, 11};

    private final CloudPaths x;
    private final List<String> told = new ArrayList<>();

    private Answers(CloudPaths x) {
        this.x = x;
    }

    static List<String> of(CloudPaths x, boolean backwards) {
        Answers answers = new Answers(x);
        for (int i = 0; i < PARTS; i++) {
            answers.part(backwards ? PARTS - 1 - i : i);
        }
        if (answers.told.size() > MOST) {
            throw new IllegalStateException("the row has " + answers.told.size() + " calls");
        }
        return answers.told;
    }

    private void part(int part) {
        switch (part) {
            case 0:
                subnets();
                break;
            case 1:
                connections();
                break;
            case 2:
                routes();
                break;
            case 3:
                peerings();
                break;
            case 4:
                groups();
                break;
            case 5:
                lists();
                break;
            default:
                more();
                break;
        }
    }

    private int ask(String name, int... args) {
        int answer = Model.call(x, name, args);
        told.add(name + Arrays.toString(args) + " answers " + answer);
        return answer;
    }

    private void subnets() {
        for (int subnet = 0; subnet <= 8; subnet++) {
            ask("idleRules", subnet);
            for (int address : ADDRESSES) {
                ask("routeFor", subnet, address);
            }
        }
    }

    private void connections() {
        for (int port = 0; port < 16; port++) {
            ask("pairs", port);
        }
        for (int host = 1; host <= 12; host++) {
            ask("ports", host, 0);
            ask("blocks", 0, host, 7);
            ask("ports", 3, 2 * host % 13);
            ask("blockedBy", host, 12 - host, 15);
            ask("reachedFrom", host);
        }
    }

    /** Which peerings there are, one more than there may be, shows by a route. */
    private void routes() {
        ask("setRoute", 0, 256, 8, -1);
        for (int i = 0; i <= 6; i++) {
            ask("setRoute", 1, 1010, 0, i);
        }
        for (int i = 0; i < 8; i++) {
            ask("setRoute", 0, 1010 + i, 0, 0);
        }
    }

    private void peerings() {
        for (int i = 0; i <= 6; i++) {
            ask("addPeering", 0, 4 - i % 4);
        }
    }

    /** Groups are added in between: a host's place in a group shows only when the group is there. */
    private void groups() {
        members();
        for (int i = 0; i < 6; i++) {
            ask("clearGroup", i);
            ask("addGroup");
        }
        members();
    }

    private void members() {
        for (int group = 0; group <= 6; group++) {
            for (int host : HOSTS) {
                ask("setGroup", host, group, 0);
            }
        }
    }

    /** Each list is taken away from the front; what is left of the first one shows at the connections. */
    private void lists() {
        for (int subnet = 0; subnet < 8; subnet++) {
            int left = ask("removeRule", subnet, 0);
            for (int i = 0; i < 12 && left >= 0; i++) {
                ask("blocks", 0, 3, 7);
                left = ask("removeRule", subnet, 0);
            }
        }
    }

    private void more() {
        for (int i = 0; i < 4; i++) {
            ask("addNetwork", 1020 + i, 0);
        }
        for (int i = 0; i < 8; i++) {
            ask("addSubnet", 1, 504 + i, 0);
        }
        for (int i = 0; i < 12; i++) {
            ask("addHost", 0, 48 + i);
        }
    }
}
