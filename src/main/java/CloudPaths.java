import java.util.ArrayList;

/** An analyser of private clouds: which ports reach from one host to another and back, and what blocks them. */
public final class CloudPaths {
    private static final int ADDRESSES = 1024;
    private static final int LARGEST_SIZE = 10;
    private static final int PORTS = 16;
    private static final int ALL_PORTS = (1 << PORTS) - 1;
    private static final int REPLY_PORT = 15;

    private static final int MOST_NETWORKS = 4;
    private static final int MOST_SUBNETS = 8;
    private static final int MOST_HOSTS = 12;
    private static final int MOST_PEERINGS = 6;
    private static final int MOST_GROUPS = 6;
    private static final int MOST_GROUP_RULES = 10;
    private static final int MOST_LIST_RULES = 12;
    private static final int MOST_ROUTES = 8;

    private static final int NO_PEERING = -1;
    private static final int LOCAL_ROUTE = -1;
    private static final int NO_ROUTE = -2;

    private static final int LEAVE_HOST = 1;
    private static final int LEAVE_SUBNET = 2;
    private static final int ROUTE_THERE = 3;
    private static final int ENTER_SUBNET = 4;
    private static final int ENTER_HOST = 5;
    private static final int REPLY_LEAVES = 6;
    private static final int ROUTE_BACK = 7;
    private static final int REPLY_ENTERS = 8;

    /** A network is its block: no two have an address in common, so the object tells which one it is. */
    private final ArrayList<Block> networks;
    private final ArrayList<Subnet> subnets;
    private final ArrayList<Host> hosts;
    private final ArrayList<Peering> peerings;
    private final ArrayList<Group> groups;

    public CloudPaths() {
        networks = new ArrayList<>();
        subnets = new ArrayList<>();
        hosts = new ArrayList<>();
        peerings = new ArrayList<>();
        groups = new ArrayList<>();
    }

    // ---- networks, subnets, hosts, peerings

    public int addNetwork(int base, int size) throws IllegalArgumentException, IllegalStateException {
        Block block = blockOf(base, size);
        if (networks.size() >= MOST_NETWORKS) {
            throw new IllegalStateException("there are 4 networks");
        }
        for (int i = 0; i < networks.size(); i++) {
            if (networks.get(i).overlaps(block)) {
                throw new IllegalStateException("another network has an address of the block");
            }
        }
        networks.add(block);
        return networks.size() - 1;
    }

    public int addSubnet(int network, int base, int size)
            throws IndexOutOfBoundsException, IllegalArgumentException, IllegalStateException {
        Block outer = networkAt(network);
        Block block = blockOf(base, size);
        if (!block.isWithin(outer)) {
            throw new IllegalArgumentException("the block is not within that of the network");
        }
        if (subnets.size() >= MOST_SUBNETS) {
            throw new IllegalStateException("there are 8 subnets");
        }
        for (int i = 0; i < subnets.size(); i++) {
            if (subnets.get(i).block.overlaps(block)) {
                throw new IllegalStateException("another subnet has an address of the block");
            }
        }
        subnets.add(new Subnet(outer, block));
        return subnets.size() - 1;
    }

    public int addHost(int subnet, int address)
            throws IndexOutOfBoundsException, IllegalArgumentException, IllegalStateException {
        Subnet home = subnetAt(subnet);
        if (!home.block.has(address)) {
            throw new IllegalArgumentException("the address is not in the block of the subnet");
        }
        if (hosts.size() >= MOST_HOSTS) {
            throw new IllegalStateException("there are 12 hosts");
        }
        for (int i = 0; i < hosts.size(); i++) {
            if (hosts.get(i).address == address) {
                throw new IllegalStateException("a host has this address");
            }
        }
        hosts.add(new Host(home, address));
        return hosts.size() - 1;
    }

    public int addPeering(int one, int other)
            throws IndexOutOfBoundsException, IllegalArgumentException, IllegalStateException {
        Block first = networkAt(one);
        Block second = networkAt(other);
        if (one == other) {
            throw new IllegalArgumentException("a peering joins two different networks");
        }
        if (peerings.size() >= MOST_PEERINGS) {
            throw new IllegalStateException("there are 6 peerings");
        }
        peerings.add(new Peering(first, second));
        return peerings.size() - 1;
    }

    // ---- groups

    public int addGroup() throws IllegalStateException {
        if (groups.size() >= MOST_GROUPS) {
            throw new IllegalStateException("there are 6 groups");
        }
        groups.add(new Group());
        return groups.size() - 1;
    }

    public int allow(int group, boolean in, int base, int size, int first, int last)
            throws IndexOutOfBoundsException, IllegalArgumentException, IllegalStateException {
        Group changed = groupAt(group);
        Block block = blockOf(base, size);
        int portSet = portRange(first, last);
        if (changed.rules.size() >= MOST_GROUP_RULES) {
            throw new IllegalStateException("the group has 10 rules");
        }
        changed.rules.add(new Rule(in, true, block, portSet));
        return changed.rules.size();
    }

    public int clearGroup(int group) throws IndexOutOfBoundsException {
        Group cleared = groupAt(group);
        int before = cleared.rules.size();
        cleared.rules.clear();
        return before;
    }

    public boolean setGroup(int host, int group, boolean in) throws IndexOutOfBoundsException {
        Host member = hostAt(host);
        checkIndex(group, groups.size());
        boolean was = member.isInGroup(group);
        member.putInGroup(group, in);
        return was;
    }

    // ---- lists and routes

    public int putRule(int subnet, int place, boolean in, boolean allows, int base, int size, int first, int last)
            throws IndexOutOfBoundsException, IllegalArgumentException, IllegalStateException {
        Subnet changed = subnetAt(subnet);
        if (place < 0 || place > changed.rules.size()) {
            throw new IndexOutOfBoundsException("there is no such place");
        }
        Block block = blockOf(base, size);
        int portSet = portRange(first, last);
        if (changed.rules.size() >= MOST_LIST_RULES) {
            throw new IllegalStateException("the list has 12 rules");
        }
        changed.rules.add(place, new Rule(in, allows, block, portSet));
        return changed.rules.size();
    }

    public int removeRule(int subnet, int place) throws IndexOutOfBoundsException {
        Subnet changed = subnetAt(subnet);
        checkIndex(place, changed.rules.size());
        changed.rules.remove(place);
        return changed.rules.size();
    }

    public int setRoute(int subnet, int base, int size, int peering)
            throws IndexOutOfBoundsException, IllegalArgumentException, IllegalStateException {
        Subnet changed = subnetAt(subnet);
        if (peering != NO_PEERING) {
            checkIndex(peering, peerings.size());
        }
        Block block = blockOf(base, size);
        int place = changed.routePlace(block);
        if (place >= 0 && place < changed.routes.size()) {
            return replaceRoute(changed, place, peering);
        }
        if (peering == NO_PEERING) {
            return NO_PEERING;
        }
        if (changed.routes.size() >= MOST_ROUTES) {
            throw new IllegalStateException("the table has 8 routes");
        }
        changed.routes.add(new Route(block, peering));
        return NO_PEERING;
    }

    public int routeFor(int subnet, int address) throws IndexOutOfBoundsException, IllegalArgumentException {
        Subnet asked = subnetAt(subnet);
        if (address < 0 || address >= ADDRESSES) {
            throw new IllegalArgumentException("there is no such address");
        }
        return asked.routeNumber(address);
    }

    // ---- connections

    public int ports(int from, int to) throws IndexOutOfBoundsException, IllegalArgumentException {
        Host first = hostAt(from);
        Host other = hostAt(to);
        checkDifferent(from, to);
        return workingPorts(first, other);
    }

    public int blockedBy(int from, int to, int port) throws IndexOutOfBoundsException, IllegalArgumentException {
        Host first = hostAt(from);
        Host other = hostAt(to);
        checkDifferent(from, to);
        int portSet = singlePort(port);
        for (int part = LEAVE_HOST; part <= REPLY_ENTERS; part++) {
            if ((openPorts(part, first, other) & portSet) == 0) {
                return part;
            }
        }
        return 0;
    }

    public int blocks(int from, int to, int port) throws IndexOutOfBoundsException, IllegalArgumentException {
        Host first = hostAt(from);
        Host other = hostAt(to);
        checkDifferent(from, to);
        int portSet = singlePort(port);
        int sum = 0;
        for (int part = LEAVE_HOST; part <= REPLY_ENTERS; part++) {
            if ((openPorts(part, first, other) & portSet) == 0) {
                sum += 1 << part;
            }
        }
        return sum;
    }

    public int pairs(int port) throws IllegalArgumentException {
        int portSet = singlePort(port);
        int count = 0;
        for (int from = 0; from < hosts.size(); from++) {
            for (int to = 0; to < hosts.size(); to++) {
                if (from != to && (workingPorts(hosts.get(from), hosts.get(to)) & portSet) != 0) {
                    count++;
                }
            }
        }
        return count;
    }

    public int reachedFrom(int to) throws IndexOutOfBoundsException {
        Host target = hostAt(to);
        int sum = 0;
        for (int from = 0; from < hosts.size(); from++) {
            if (from != to && workingPorts(hosts.get(from), target) != 0) {
                sum += 1 << from;
            }
        }
        return sum;
    }

    public int idleRules(int subnet) throws IndexOutOfBoundsException {
        return subnetAt(subnet).countIdleRules();
    }

    // ---- what the calls refuse

    private static void checkIndex(int index, int count) {
        if (index < 0 || index >= count) {
            throw new IndexOutOfBoundsException("there is no such number");
        }
    }

    private Block networkAt(int network) {
        checkIndex(network, networks.size());
        return networks.get(network);
    }

    private Subnet subnetAt(int subnet) {
        checkIndex(subnet, subnets.size());
        return subnets.get(subnet);
    }

    private Host hostAt(int host) {
        checkIndex(host, hosts.size());
        return hosts.get(host);
    }

    private Group groupAt(int group) {
        checkIndex(group, groups.size());
        return groups.get(group);
    }

    private static Block blockOf(int base, int size) {
        if (size < 0 || size > LARGEST_SIZE || base < 0 || base >= ADDRESSES || (base & ((1 << size) - 1)) != 0) {
            throw new IllegalArgumentException("base and size are no block of addresses");
        }
        return new Block(base, size);
    }

    private static int portRange(int first, int last) {
        if (first < 0 || last < first || last >= PORTS) {
            throw new IllegalArgumentException("first or last is out of range");
        }
        return (1 << (last + 1)) - (1 << first);
    }

    private static int singlePort(int port) {
        if (port < 0 || port >= PORTS) {
            throw new IllegalArgumentException("the port is out of range");
        }
        return 1 << port;
    }

    private static void checkDifferent(int from, int to) {
        if (from == to) {
            throw new IllegalArgumentException("a connection goes to another host");
        }
    }

    // ---- routes and the parts of a connection

    private static int replaceRoute(Subnet subnet, int place, int peering) {
        Route route = subnet.routes.get(place);
        int before = route.peering;
        if (peering == NO_PEERING) {
            subnet.routes.remove(place);
        } else {
            route.peering = peering;
        }
        return before;
    }

    private int workingPorts(Host from, Host to) {
        int open = ALL_PORTS;
        for (int part = LEAVE_HOST; part <= REPLY_ENTERS; part++) {
            open &= openPorts(part, from, to);
        }
        return open;
    }

    /** The ports of connections that one part, asked by itself, lets through. */
    private int openPorts(int part, Host from, Host to) {
        if (from.subnet == to.subnet && part != LEAVE_HOST && part != ENTER_HOST) {
            return ALL_PORTS;
        }
        switch (part) {
            case LEAVE_HOST:
                return groupPorts(from, false, to.address);
            case LEAVE_SUBNET:
                return from.subnet.listPorts(false, to.address);
            case ROUTE_THERE:
                return allOrNone(isRouted(from.subnet, to));
            case ENTER_SUBNET:
                return to.subnet.listPorts(true, from.address);
            case ENTER_HOST:
                return groupPorts(to, true, from.address);
            case REPLY_LEAVES:
                return allOrNone(hasReplyPort(to.subnet.listPorts(false, from.address)));
            case ROUTE_BACK:
                return allOrNone(isRouted(to.subnet, from));
            default:
                return allOrNone(hasReplyPort(from.subnet.listPorts(true, to.address)));
        }
    }

    private static int allOrNone(boolean open) {
        return open ? ALL_PORTS : 0;
    }

    private static boolean hasReplyPort(int portSet) {
        return (portSet & (1 << REPLY_PORT)) != 0;
    }

    private int groupPorts(Host host, boolean in, int address) {
        int open = 0;
        for (int group = 0; group < groups.size(); group++) {
            if (host.isInGroup(group)) {
                open |= groups.get(group).rulePorts(in, address);
            }
        }
        return open;
    }

    private boolean isRouted(Subnet from, Host to) {
        int number = from.routeNumber(to.address);
        if (number == LOCAL_ROUTE) {
            return from.network == to.subnet.network;
        }
        return number >= 0 && number < peerings.size() && peerings.get(number).joins(from.network, to.subnet.network);
    }

    // ---- what the analyser holds

    private static final class Block {
        final int base;
        final int size;

        Block(int base, int size) {
            this.base = base;
            this.size = size;
        }

        boolean has(int address) {
            return address >> size == base >> size;
        }

        boolean isWithin(Block outer) {
            return size <= outer.size && outer.has(base);
        }

        /** Of two blocks with an address in common one is within the other. */
        boolean overlaps(Block other) {
            return has(other.base) || other.has(base);
        }

        boolean isSame(Block other) {
            return base == other.base && size == other.size;
        }

        int end() {
            return base + (1 << size);
        }
    }

    private static final class Peering {
        final Block one;
        final Block other;

        Peering(Block one, Block other) {
            this.one = one;
            this.other = other;
        }

        boolean joins(Block first, Block second) {
            return one == first && other == second || one == second && other == first;
        }
    }

    private static final class Route {
        final Block block;
        int peering;

        Route(Block block, int peering) {
            this.block = block;
            this.peering = peering;
        }
    }

    /** A rule of a group, which always allows, or of the list of a subnet. */
    private static final class Rule {
        final boolean in;
        final boolean allows;
        final Block block;
        final int portSet;

        Rule(boolean in, boolean allows, Block block, int portSet) {
            this.in = in;
            this.allows = allows;
            this.block = block;
            this.portSet = portSet;
        }

        boolean isFor(boolean inwards, int address) {
            return in == inwards && block.has(address);
        }
    }

    private static final class Group {
        final ArrayList<Rule> rules;

        Group() {
            rules = new ArrayList<>();
        }

        int rulePorts(boolean in, int address) {
            int open = 0;
            for (int i = 0; i < rules.size(); i++) {
                Rule rule = rules.get(i);
                if (rule.isFor(in, address)) {
                    open |= rule.portSet;
                }
            }
            return open;
        }
    }

    private static final class Host {
        final Subnet subnet;
        final int address;
        private int groupSet;

        Host(Subnet subnet, int address) {
            this.subnet = subnet;
            this.address = address;
        }

        boolean isInGroup(int group) {
            return (groupSet & (1 << group)) != 0;
        }

        void putInGroup(int group, boolean in) {
            if (in) {
                groupSet |= 1 << group;
            } else {
                groupSet &= ~(1 << group);
            }
        }
    }

    private static final class Subnet {
        final Block network;
        final Block block;
        final ArrayList<Rule> rules;
        final ArrayList<Route> routes;

        Subnet(Block network, Block block) {
            this.network = network;
            this.block = block;
            rules = new ArrayList<>();
            routes = new ArrayList<>();
        }

        int listPorts(boolean in, int address) {
            boolean asked = false;
            int decided = 0;
            int open = 0;
            for (int i = 0; i < rules.size(); i++) {
                Rule rule = rules.get(i);
                asked |= rule.in == in;
                if (rule.isFor(in, address)) {
                    if (rule.allows) {
                        open |= rule.portSet & ~decided;
                    }
                    decided |= rule.portSet;
                }
            }
            return asked ? open : ALL_PORTS;
        }

        /** The place of the route with this block, -1 if there is none. */
        int routePlace(Block wanted) {
            for (int i = 0; i < routes.size(); i++) {
                if (routes.get(i).block.isSame(wanted)) {
                    return i;
                }
            }
            return -1;
        }

        /** The peering of the route that counts, or LOCAL_ROUTE or NO_ROUTE. */
        int routeNumber(int address) {
            int number = NO_ROUTE;
            int smallest = LARGEST_SIZE + 1;
            if (network.has(address)) {
                number = LOCAL_ROUTE;
                smallest = network.size;
            }
            for (int i = 0; i < routes.size(); i++) {
                Route route = routes.get(i);
                if (route.block.size < smallest && route.block.has(address)) {
                    number = route.peering;
                    smallest = route.block.size;
                }
            }
            return number;
        }

        int countIdleRules() {
            int count = 0;
            for (int i = 0; i < rules.size(); i++) {
                if (isIdle(rules.get(i))) {
                    count++;
                }
            }
            return count;
        }

        /** The first address at which a port is left is the rule's base or stands right behind an earlier block. */
        private boolean isIdle(Rule rule) {
            if (isMetAt(rule, rule.block.base)) {
                return false;
            }
            for (int i = 0; i < rules.size() && rules.get(i) != rule; i++) {
                if (isMetAt(rule, rules.get(i).block.end())) {
                    return false;
                }
            }
            return true;
        }

        private boolean isMetAt(Rule rule, int address) {
            if (!rule.block.has(address)) {
                return false;
            }
            int left = rule.portSet;
            for (int i = 0; i < rules.size() && rules.get(i) != rule; i++) {
                Rule earlier = rules.get(i);
                if (earlier.isFor(rule.in, address)) {
                    left &= ~earlier.portSet;
                }
            }
            return left != 0;
        }
    }
}
