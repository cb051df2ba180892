import java.util.ArrayList;
import java.util.List;

/** The document once more, packet by packet and address by address, to compare long runs with. */
final class Model {
    private static final int BOUNDS = -101;
    private static final int ARGUMENT = -102;
    private static final int STATE = -103;

    private final List<int[]> networks = new ArrayList<>();
    private final List<int[]> subnets = new ArrayList<>();
    private final List<int[]> hosts = new ArrayList<>();
    private final List<int[]> peerings = new ArrayList<>();
    private final List<List<int[]>> groups = new ArrayList<>();
    private final List<List<int[]>> lists = new ArrayList<>();
    private final List<List<int[]>> tables = new ArrayList<>();
    private final boolean[][] member = new boolean[12][6];

    /** What the call is due to answer; an exception is answered by its own number. */
    int call(String name, int[] a) {
        switch (name) {
            case "addNetwork":
                return addNetwork(a[0], a[1]);
            case "addSubnet":
                return addSubnet(a[0], a[1], a[2]);
            case "addHost":
                return addHost(a[0], a[1]);
            case "addPeering":
                return addPeering(a[0], a[1]);
            case "addGroup":
                return addGroup();
            case "allow":
                return allow(a[0], a[1], a[2], a[3], a[4], a[5]);
            case "clearGroup":
                return clearGroup(a[0]);
            case "setGroup":
                return setGroup(a[0], a[1], a[2]);
            case "putRule":
                return putRule(a);
            case "removeRule":
                return removeRule(a[0], a[1]);
            case "setRoute":
                return setRoute(a[0], a[1], a[2], a[3]);
            case "routeFor":
                return routeFor(a[0], a[1]);
            case "ports":
                return ports(a[0], a[1]);
            case "blockedBy":
                return blockedBy(a[0], a[1], a[2]);
            case "blocks":
                return blocks(a[0], a[1], a[2]);
            case "pairs":
                return pairs(a[0]);
            case "reachedFrom":
                return reachedFrom(a[0]);
            default:
                return idleRules(a[0]);
        }
    }

    /** The same call on the object itself. */
    static int call(CloudPaths x, String name, int[] a) {
        try {
            switch (name) {
                case "addNetwork":
                    return x.addNetwork(a[0], a[1]);
                case "addSubnet":
                    return x.addSubnet(a[0], a[1], a[2]);
                case "addHost":
                    return x.addHost(a[0], a[1]);
                case "addPeering":
                    return x.addPeering(a[0], a[1]);
                case "addGroup":
                    return x.addGroup();
                case "allow":
                    return x.allow(a[0], a[1] == 1, a[2], a[3], a[4], a[5]);
                case "clearGroup":
                    return x.clearGroup(a[0]);
                case "setGroup":
                    return x.setGroup(a[0], a[1], a[2] == 1) ? 1 : 0;
                case "putRule":
                    return x.putRule(a[0], a[1], a[2] == 1, a[3] == 1, a[4], a[5], a[6], a[7]);
                case "removeRule":
                    return x.removeRule(a[0], a[1]);
                case "setRoute":
                    return x.setRoute(a[0], a[1], a[2], a[3]);
                case "routeFor":
                    return x.routeFor(a[0], a[1]);
                case "ports":
                    return x.ports(a[0], a[1]);
                case "blockedBy":
                    return x.blockedBy(a[0], a[1], a[2]);
                case "blocks":
                    return x.blocks(a[0], a[1], a[2]);
                case "pairs":
                    return x.pairs(a[0]);
                case "reachedFrom":
                    return x.reachedFrom(a[0]);
                default:
                    return x.idleRules(a[0]);
            }
        } catch (RuntimeException e) {
            return number(e);
        }
    }

    private static int number(RuntimeException e) {
        switch (Check.nameOf(e)) {
            case "IndexOutOfBoundsException":
                return BOUNDS;
            case "IllegalArgumentException":
                return ARGUMENT;
            case "IllegalStateException":
                return STATE;
            default:
                return -104;
        }
    }

    int networkCount() {
        return networks.size();
    }

    int subnetCount() {
        return subnets.size();
    }

    int hostCount() {
        return hosts.size();
    }

    /** base, size of a network or subnet. */
    int[] network(int number) {
        return networks.get(number);
    }

    int[] subnet(int number) {
        return new int[] {subnets.get(number)[1], subnets.get(number)[2]};
    }

    int address(int host) {
        return hosts.get(host)[1];
    }

    private static boolean none(int number, List<?> of) {
        return number < 0 || number >= of.size();
    }

    private static int power(int size) {
        int power = 1;
        for (int i = 0; i < size; i++) {
            power *= 2;
        }
        return power;
    }

    private static boolean noBlock(int base, int size) {
        return base < 0 || base > 1023 || size < 0 || size > 10 || base % power(size) != 0;
    }

    private static boolean noPorts(int first, int last) {
        return first < 0 || first > 15 || last < first || last > 15;
    }

    private static boolean has(int base, int size, int address) {
        return address >= base && address < base + power(size);
    }

    private static boolean common(int base, int size, int otherBase, int otherSize) {
        for (int address = base; address < base + power(size); address++) {
            if (has(otherBase, otherSize, address)) {
                return true;
            }
        }
        return false;
    }

    private int addNetwork(int base, int size) {
        if (noBlock(base, size)) {
            return ARGUMENT;
        }
        for (int[] other : networks) {
            if (common(base, size, other[0], other[1])) {
                return STATE;
            }
        }
        if (networks.size() == 4) {
            return STATE;
        }
        networks.add(new int[] {base, size});
        return networks.size() - 1;
    }

    private int addSubnet(int network, int base, int size) {
        if (none(network, networks)) {
            return BOUNDS;
        }
        if (noBlock(base, size)) {
            return ARGUMENT;
        }
        int[] outer = networks.get(network);
        if (!has(outer[0], outer[1], base) || !has(outer[0], outer[1], base + power(size) - 1)) {
            return ARGUMENT;
        }
        for (int[] other : subnets) {
            if (common(base, size, other[1], other[2])) {
                return STATE;
            }
        }
        if (subnets.size() == 8) {
            return STATE;
        }
        subnets.add(new int[] {network, base, size});
        lists.add(new ArrayList<>());
        tables.add(new ArrayList<>());
        return subnets.size() - 1;
    }

    private int addHost(int subnet, int address) {
        if (none(subnet, subnets)) {
            return BOUNDS;
        }
        int[] home = subnets.get(subnet);
        if (!has(home[1], home[2], address)) {
            return ARGUMENT;
        }
        for (int[] other : hosts) {
            if (other[1] == address) {
                return STATE;
            }
        }
        if (hosts.size() == 12) {
            return STATE;
        }
        hosts.add(new int[] {subnet, address});
        return hosts.size() - 1;
    }

    private int addPeering(int one, int other) {
        if (none(one, networks) || none(other, networks)) {
            return BOUNDS;
        }
        if (one == other) {
            return ARGUMENT;
        }
        if (peerings.size() == 6) {
            return STATE;
        }
        peerings.add(new int[] {one, other});
        return peerings.size() - 1;
    }

    private int addGroup() {
        if (groups.size() == 6) {
            return STATE;
        }
        groups.add(new ArrayList<>());
        return groups.size() - 1;
    }

    private int allow(int group, int in, int base, int size, int first, int last) {
        if (none(group, groups)) {
            return BOUNDS;
        }
        if (noBlock(base, size) || noPorts(first, last)) {
            return ARGUMENT;
        }
        if (groups.get(group).size() == 10) {
            return STATE;
        }
        groups.get(group).add(new int[] {in, 1, base, size, first, last});
        return groups.get(group).size();
    }

    private int clearGroup(int group) {
        if (none(group, groups)) {
            return BOUNDS;
        }
        int before = groups.get(group).size();
        groups.get(group).clear();
        return before;
    }

    private int setGroup(int host, int group, int in) {
        if (none(host, hosts) || none(group, groups)) {
            return BOUNDS;
        }
        boolean was = member[host][group];
        member[host][group] = in == 1;
        return was ? 1 : 0;
    }

    private int putRule(int[] a) {
        if (none(a[0], subnets) || a[1] < 0 || a[1] > lists.get(a[0]).size()) {
            return BOUNDS;
        }
        if (noBlock(a[4], a[5]) || noPorts(a[6], a[7])) {
            return ARGUMENT;
        }
        List<int[]> list = lists.get(a[0]);
        if (list.size() == 12) {
            return STATE;
        }
        list.add(a[1], new int[] {a[2], a[3], a[4], a[5], a[6], a[7]});
        return list.size();
    }

    private int removeRule(int subnet, int place) {
        if (none(subnet, subnets) || none(place, lists.get(subnet))) {
            return BOUNDS;
        }
        lists.get(subnet).remove(place);
        return lists.get(subnet).size();
    }

    private int setRoute(int subnet, int base, int size, int peering) {
        if (none(subnet, subnets) || peering != -1 && none(peering, peerings)) {
            return BOUNDS;
        }
        if (noBlock(base, size)) {
            return ARGUMENT;
        }
        List<int[]> table = tables.get(subnet);
        for (int[] route : table) {
            if (route[0] == base && route[1] == size) {
                int before = route[2];
                table.remove(route);
                if (peering != -1) {
                    table.add(new int[] {base, size, peering});
                }
                return before;
            }
        }
        if (peering != -1) {
            if (table.size() == 8) {
                return STATE;
            }
            table.add(new int[] {base, size, peering});
        }
        return -1;
    }

    private int routeFor(int subnet, int address) {
        if (none(subnet, subnets)) {
            return BOUNDS;
        }
        return address < 0 || address > 1023 ? ARGUMENT : route(subnet, address);
    }

    private int route(int subnet, int address) {
        int[] local = networks.get(subnets.get(subnet)[0]);
        for (int size = 0; size <= 10; size++) {
            if (local[1] == size && has(local[0], size, address)) {
                return -1;
            }
            for (int[] route : tables.get(subnet)) {
                if (route[1] == size && has(route[0], size, address)) {
                    return route[2];
                }
            }
        }
        return -2;
    }

    private boolean routed(int subnet, int host) {
        int mine = subnets.get(subnet)[0];
        int its = subnets.get(hosts.get(host)[0])[0];
        int number = route(subnet, hosts.get(host)[1]);
        if (number < 0) {
            return number == -1 && mine == its;
        }
        int[] ends = peerings.get(number);
        return ends[0] == mine && ends[1] == its || ends[1] == mine && ends[0] == its;
    }

    private static boolean meets(int[] rule, int in, int address, int port) {
        return rule[0] == in && has(rule[2], rule[3], address) && port >= rule[4] && port <= rule[5];
    }

    private boolean byGroups(int host, int in, int address, int port) {
        for (int group = 0; group < groups.size(); group++) {
            for (int[] rule : groups.get(group)) {
                if (member[host][group] && meets(rule, in, address, port)) {
                    return true;
                }
            }
        }
        return false;
    }

    private boolean byList(int subnet, int in, int address, int port) {
        for (int[] rule : lists.get(subnet)) {
            if (meets(rule, in, address, port)) {
                return rule[1] == 1;
            }
        }
        for (int[] rule : lists.get(subnet)) {
            if (rule[0] == in) {
                return false;
            }
        }
        return true;
    }

    private boolean lets(int part, int from, int to, int port) {
        int mine = hosts.get(from)[0];
        int its = hosts.get(to)[0];
        int here = hosts.get(from)[1];
        int there = hosts.get(to)[1];
        if (part == 1) {
            return byGroups(from, 0, there, port);
        }
        if (part == 5) {
            return byGroups(to, 1, here, port);
        }
        if (mine == its) {
            return true;
        }
        boolean[] parts = {
            byList(mine, 0, there, port), routed(mine, to), byList(its, 1, here, port), true,
            byList(its, 0, here, 15), routed(its, from), byList(mine, 1, there, 15),
        };
        return parts[part - 2];
    }

    private int blocks(int from, int to, int port) {
        if (none(from, hosts) || none(to, hosts)) {
            return BOUNDS;
        }
        if (from == to || port < 0 || port > 15) {
            return ARGUMENT;
        }
        int sum = 0;
        for (int part = 1; part <= 8; part++) {
            sum += lets(part, from, to, port) ? 0 : power(part);
        }
        return sum;
    }

    private int blockedBy(int from, int to, int port) {
        int sum = blocks(from, to, port);
        if (sum <= 0) {
            return sum;
        }
        int part = 1;
        while (sum / power(part) % 2 == 0) {
            part++;
        }
        return part;
    }

    private int ports(int from, int to) {
        if (none(from, hosts) || none(to, hosts)) {
            return BOUNDS;
        }
        if (from == to) {
            return ARGUMENT;
        }
        int set = 0;
        for (int port = 0; port < 16; port++) {
            set += blocks(from, to, port) == 0 ? power(port) : 0;
        }
        return set;
    }

    private int pairs(int port) {
        if (port < 0 || port > 15) {
            return ARGUMENT;
        }
        int count = 0;
        for (int from = 0; from < hosts.size(); from++) {
            for (int to = 0; to < hosts.size(); to++) {
                count += from != to && blocks(from, to, port) == 0 ? 1 : 0;
            }
        }
        return count;
    }

    private int reachedFrom(int to) {
        if (none(to, hosts)) {
            return BOUNDS;
        }
        int sum = 0;
        for (int from = 0; from < hosts.size(); from++) {
            sum += from != to && ports(from, to) != 0 ? power(from) : 0;
        }
        return sum;
    }

    private int idleRules(int subnet) {
        if (none(subnet, subnets)) {
            return BOUNDS;
        }
        int count = 0;
        for (int place = 0; place < lists.get(subnet).size(); place++) {
            count += idle(lists.get(subnet), place) ? 1 : 0;
        }
        return count;
    }

    private static boolean idle(List<int[]> list, int place) {
        int[] rule = list.get(place);
        for (int address = rule[2]; address < rule[2] + power(rule[3]); address++) {
            for (int port = rule[4]; port <= rule[5]; port++) {
                boolean ahead = false;
                for (int i = 0; i < place; i++) {
                    ahead = ahead || meets(list.get(i), rule[0], address, port);
                }
                if (!ahead) {
                    return false;
                }
            }
        }
        return true;
    }
}
