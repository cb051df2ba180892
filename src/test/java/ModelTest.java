import java.util.Arrays;

/** All promises: long runs of calls, right and wrong ones mixed, compared with a model call by call. */
public final class ModelTest {
    private static final int RUNS = 400;
    private static final int CALLS = 512;
    private static final String[] BUILDING = {
        "addNetwork", "addSubnet", "addSubnet", "addHost", "addHost", "addPeering", "addGroup",
    };
    private static final String[] CHANGING = {
        "allow", "allow", "setGroup", "setGroup", "setGroup", "putRule", "putRule", "putRule", "removeRule",
        "setRoute", "setRoute", "setRoute",
    };
    private static final String[] ASKING = {
        "routeFor", "ports", "blockedBy", "blocks", "pairs", "reachedFrom", "idleRules", "ports", "blocks",
    };

    private final Model model = new Model();
    private final CloudPaths object = new CloudPaths();
    private final Check check;
    private final int run;
    private long seed;

    private ModelTest(Check check, int run) {
        this.check = check;
        this.run = run;
        this.seed = run * 7919L + 17;
    }

    public static void main(String[] args) {
        Check check = new Check("ModelTest");
        for (int run = 0; run < RUNS; run++) {
            new ModelTest(check, run).calls();
        }
        check.end();
    }

    private void calls() {
        openGroup();
        for (int i = 3; i < CALLS; i++) {
            String name = nextName(i);
            int[] args = nextArguments(name);
            // A cleared group shuts much: seldom.
            if (i > 60 && below(150) == 0) {
                name = "clearGroup";
                args = new int[] {number(6)};
            }
            compare(name, args);
        }
    }

    /** In half of the runs one group lets everything through, so that lists and routes are seen. */
    private void openGroup() {
        compare("addGroup", new int[0]);
        int last = run % 2 == 0 ? 15 : 0;
        compare("allow", new int[] {0, 0, 0, 10, 0, last});
        compare("allow", new int[] {0, 1, 0, 10, 0, last});
    }

    private void compare(String name, int[] args) {
        String call = "run " + run + " " + name + Arrays.toString(args);
        check.due(call, Model.call(object, name, args), model.call(name, args));
    }

    private String nextName(int call) {
        if (call < 50 ? below(4) != 0 : below(40) == 0) {
            return BUILDING[below(BUILDING.length)];
        }
        if (call < 260 ? below(3) != 0 : below(4) == 0) {
            return CHANGING[below(CHANGING.length)];
        }
        return ASKING[below(ASKING.length)];
    }

    private int[] nextArguments(String name) {
        int[] block = block();
        int first = below(40) == 0 ? 16 - below(20) : below(16);
        int last = below(40) == 0 ? below(20) - 1 : first + below(Math.max(1, 16 - first));
        switch (name) {
            case "addNetwork":
                return below(3) == 0 ? block : new int[] {256 * below(4), 8};
            case "addSubnet":
                return subnetArguments();
            case "addHost":
                return hostArguments();
            case "addPeering":
                return new int[] {number(model.networkCount()), number(model.networkCount())};
            case "addGroup":
                return new int[0];
            case "allow":
                return new int[] {number(6), below(2), block[0], block[1], first, last};
            case "setGroup":
                return new int[] {number(model.hostCount()), below(2) * number(6), below(4) == 0 ? 0 : 1};
            case "putRule":
                int place = below(14) - (below(9) == 0 ? 1 : 0) >> below(3);
                int allows = below(3) == 0 ? 0 : 1;
                return new int[] {
                    number(model.subnetCount()), place, below(2), allows, block[0], block[1], first, last,
                };
            case "removeRule":
                return new int[] {number(model.subnetCount()), below(14) >> below(3)};
            case "setRoute":
                return new int[] {number(model.subnetCount()), block[0], block[1], below(8) == 0 ? -1 : number(6)};
            case "routeFor":
                return new int[] {number(model.subnetCount()), below(30) == 0 ? 1024 - below(1030) : address()};
            case "ports":
                return new int[] {number(model.hostCount()), number(model.hostCount())};
            case "blockedBy":
            case "blocks":
                return new int[] {number(model.hostCount()), number(model.hostCount()), number(16)};
            case "pairs":
                return new int[] {number(16)};
            case "reachedFrom":
                return new int[] {number(model.hostCount())};
            default:
                return new int[] {number(model.subnetCount())};
        }
    }

    private int[] subnetArguments() {
        int network = number(model.networkCount());
        int[] block = block();
        if (network >= 0 && network < model.networkCount() && below(6) != 0) {
            int[] outer = model.network(network);
            int size = Math.max(0, outer[1] - 1 - below(3));
            int places = 1 << outer[1] - size;
            return new int[] {network, outer[0] + (below(places) << size), size};
        }
        return new int[] {network, block[0], block[1]};
    }

    private int[] hostArguments() {
        int subnet = number(model.subnetCount());
        if (subnet >= 0 && subnet < model.subnetCount() && below(6) != 0) {
            int[] block = model.subnet(subnet);
            return new int[] {subnet, block[0] + below(1 << block[1])};
        }
        return new int[] {subnet, address()};
    }

    /** A number below the bound; seldom one outside. */
    private int number(int bound) {
        if (bound == 0 || below(40) == 0) {
            return below(2) == 0 ? bound : -1 - below(3);
        }
        return below(bound);
    }

    private int address() {
        return model.hostCount() > 0 && below(2) == 0 ? model.address(below(model.hostCount())) : below(1024);
    }

    /** A block, mostly large or around a host's address; seldom none. */
    private int[] block() {
        int size = below(3) == 0 ? below(11) : 5 + below(6);
        int base = address() >> size << size;
        if (below(40) == 0) {
            return new int[] {below(2) == 0 ? base + 1 : base - 1024, size};
        }
        if (below(60) == 0) {
            return new int[] {base, below(2) == 0 ? -1 : 11};
        }
        return new int[] {base, size};
    }

    private int below(int bound) {
        seed = seed * 6364136223846793005L + 1442695040888963407L;
        return (int) ((seed >>> 33) % bound);
    }
}
