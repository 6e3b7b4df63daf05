/**
 * A heat network of a neighborhood: pipes that branch out from a boiler house, with meters, boilers,
 * a tariff, accounts by hours, what-if questions and networks that are read from a text.
 *
 * What follows from the state (flows, temperatures, loads, regions) is worked out once after each
 * change and then only read. All rows are made here once, so that no call makes new ones.
 */
public final class HeatBranches {
    public static final int NONE = -1;

    private static final int MOST_NODES = 16;
    private static final int MOST_BOILERS = 4;
    private static final int MOST_SAVED = 4;
    private static final int MOST_BYTES = 180;
    private static final int MOST_HOURS = 200;
    private static final int MOST_HOURS_AT_ONCE = 100;

    private static final int MAX_LENGTH = 500;
    private static final int MAX_LOOSENESS = 50;
    private static final int MAX_DRAW = 500;
    private static final int MAX_SETTING = 1200;
    private static final int MAX_LEAK = 100;
    private static final int MIN_SUPPLY = 400;
    private static final int MAX_SUPPLY = 1200;
    private static final int MIN_GROUND = -200;
    private static final int MAX_GROUND = 300;
    private static final int MAX_CAPACITY = 9999999;
    private static final int MAX_COST = 99;
    private static final int MAX_PRICE = 999;
    private static final int MAX_MARK = 1200;
    private static final int MAX_BONUS = 99;
    private static final int MIN_WANTED = -200;
    private static final int MAX_WANTED = 1200;
    private static final int MAX_BYTE = 127;

    private static final int LAST_NODE_FACT = 11;
    private static final int LAST_HEAT = 5;
    private static final int LAST_SUMMED_HEAT = 2;
    private static final int LAST_NUMBER = 14;
    private static final int LAST_BOILER_FACT = 4;

    /** A customer is served well if its temperature is this much above its return. */
    private static final int COMFORT = 100;
    /** Below every temperature, so each node is warm enough for it. */
    private static final int NO_WISH = -1000;
    /** The halved steps from here on reach every supply. */
    private static final int WIDEST_STEP = 512;
    private static final int FAULT_BASE = -10;
    private static final long DIGEST_START = 3407;

    private final State now = new State();
    private final History history = new History();
    private final NetworkText text = new NetworkText();
    private final Hour actual = new Hour();
    private final Regions regions = new Regions();
    private final Hour trial = new Hour();
    private final Regions trialRegions = new Regions();
    private final Network parsed = new Network();
    private final int[] wishes = new int[MOST_NODES];

    public HeatBranches() {
        settle();
    }

    // ---- network

    public int addNode(int parent, int length, int looseness, int draw, int setting)
            throws IndexOutOfBoundsException, IllegalArgumentException, IllegalStateException {
        requireNode(parent);
        requireWithin(length, 1, MAX_LENGTH);
        requireWithin(looseness, 0, MAX_LOOSENESS);
        requireWithin(draw, 0, MAX_DRAW);
        requireWithin(setting, 0, MAX_SETTING);
        if (now.network.count >= MOST_NODES) {
            throw new IllegalStateException("there are 16 nodes");
        }
        history.keep(now);
        int added = now.network.attach(parent, length, looseness, draw, setting);
        settle();
        return added;
    }

    public int setDraw(int node, int draw, int setting) throws IndexOutOfBoundsException, IllegalArgumentException {
        requirePipe(node);
        requireWithin(draw, 0, MAX_DRAW);
        requireWithin(setting, 0, MAX_SETTING);
        history.keep(now);
        int previous = now.network.draw[node];
        now.network.draw[node] = draw;
        now.network.setting[node] = setting;
        settle();
        return previous;
    }

    public int setLeak(int node, int leak) throws IndexOutOfBoundsException, IllegalArgumentException {
        requirePipe(node);
        requireWithin(leak, 0, MAX_LEAK);
        history.keep(now);
        int previous = now.network.leak[node];
        now.network.leak[node] = leak;
        settle();
        return previous;
    }

    public int setTemperatures(int supply, int ground) throws IllegalArgumentException {
        requireWithin(supply, MIN_SUPPLY, MAX_SUPPLY);
        requireWithin(ground, MIN_GROUND, MAX_GROUND);
        history.keep(now);
        int previous = now.supply;
        now.supply = supply;
        now.ground = ground;
        settle();
        return previous;
    }

    public int node(int node, int what) throws IndexOutOfBoundsException, IllegalArgumentException {
        requireNode(node);
        requireWithin(what, 0, LAST_NODE_FACT);
        return nodeFact(node, what);
    }

    public int heat(int node, int what) throws IndexOutOfBoundsException, IllegalArgumentException {
        requirePipe(node);
        requireWithin(what, 0, LAST_HEAT);
        return heatOf(node, what);
    }

    public int value(int what) throws IllegalArgumentException {
        requireWithin(what, 0, LAST_NUMBER);
        return number(what);
    }

    public int sum(int what) throws IllegalArgumentException {
        requireWithin(what, 0, LAST_SUMMED_HEAT);
        return sumOfHeats(what);
    }

    // ---- boilers and tariff

    public int addBoiler(int capacity, int least, int cost) throws IllegalArgumentException, IllegalStateException {
        requireWithin(capacity, 1, MAX_CAPACITY);
        requireWithin(least, 0, capacity);
        requireWithin(cost, 0, MAX_COST);
        if (now.boilers.count >= MOST_BOILERS) {
            throw new IllegalStateException("there are 4 boilers");
        }
        history.keep(now);
        int added = now.boilers.install(capacity, least, cost);
        settle();
        return added;
    }

    public int setCost(int boiler, int cost) throws IndexOutOfBoundsException, IllegalArgumentException {
        requireBoiler(boiler);
        requireWithin(cost, 0, MAX_COST);
        history.keep(now);
        int previous = now.boilers.cost[boiler];
        now.boilers.cost[boiler] = cost;
        settle();
        return previous;
    }

    public int boiler(int boiler, int what) throws IndexOutOfBoundsException, IllegalArgumentException {
        requireBoiler(boiler);
        requireWithin(what, 0, LAST_BOILER_FACT);
        return boilerFact(boiler, what);
    }

    public int setTariff(int price, int mark, int bonus) throws IllegalArgumentException {
        requireWithin(price, 0, MAX_PRICE);
        requireWithin(mark, 0, MAX_MARK);
        requireWithin(bonus, 0, MAX_BONUS);
        history.keep(now);
        int previous = now.price;
        now.price = price;
        now.mark = mark;
        now.bonus = bonus;
        return previous;
    }

    public int pass(int hours) throws IllegalArgumentException, IllegalStateException {
        requireWithin(hours, 1, MOST_HOURS_AT_ONCE);
        if (now.hours + hours > MOST_HOURS) {
            throw new IllegalStateException("more than 200 hours");
        }
        history.keep(now);
        for (int n = 1; n < now.network.count; n++) {
            now.network.account[n] += hours * billOf(n);
        }
        now.costs += hours * actual.costs;
        now.hours += hours;
        return now.hours;
    }

    // ---- meters

    public int setMeter(int node, boolean meter) throws IndexOutOfBoundsException {
        requirePipe(node);
        history.keep(now);
        now.network.meter[node] = meter ? 1 : 0;
        settle();
        return now.network.meters();
    }

    public int balance(int node) throws IndexOutOfBoundsException {
        requireNode(node);
        return regions.balanceAt(node);
    }

    public int region(int node) throws IndexOutOfBoundsException {
        requireNode(node);
        return regions.sizeAt(node);
    }

    public int meterOf(int node) throws IndexOutOfBoundsException {
        requirePipe(node);
        return regions.head[node];
    }

    public int nextMeter(int node) throws IndexOutOfBoundsException {
        requireNode(node);
        return regions.nextPlace(node);
    }

    public int suspects() {
        return regions.suspectCount();
    }

    public int metersToFind() {
        trialRegions.takeMeters(now.network);
        trialRegions.settle(now.network);
        int found = 0;
        // each meter takes a place of its own, so there are never more than nodes
        for (int round = 0; round < MOST_NODES; round++) {
            int place = trialRegions.firstNextPlace();
            if (place == NONE) {
                break;
            }
            trialRegions.giveMeter(place);
            trialRegions.settle(now.network);
            found++;
        }
        return found;
    }

    // ---- what if

    public int supplyFor(int node, int wanted) throws IndexOutOfBoundsException, IllegalArgumentException {
        requirePipe(node);
        requireWithin(wanted, MIN_WANTED, MAX_WANTED);
        for (int n = 0; n < now.network.count; n++) {
            wishes[n] = NO_WISH;
        }
        wishes[node] = wanted;
        return lowestSupplyForWishes();
    }

    public int cheapestSupply() {
        Network network = now.network;
        for (int n = 0; n < network.count; n++) {
            // T at least R + COMFORT can only be with T above the setting, and then R is the setting
            wishes[n] = network.draw[n] > 0 ? network.setting[n] + COMFORT : NO_WISH;
        }
        int lowest = lowestSupplyForWishes();
        if (lowest == NONE) {
            return NONE;
        }
        // From there on each R is a setting, so a warmer supply only adds to the need; and with
        // the need no load, no cost and no unmet heat ever falls: the lowest supply decides.
        trial.settle(now, lowest);
        return trial.unmet == 0 ? lowest : NONE;
    }

    public int saves(int node) throws IndexOutOfBoundsException {
        requirePipe(node);
        int leak = now.network.leak[node];
        now.network.leak[node] = 0;
        trial.settle(now, now.supply);
        now.network.leak[node] = leak;
        return actual.costs - trial.costs;
    }

    public double efficiency() {
        int out = actual.flow[0] * now.supply;
        if (out == 0) {
            return 0.0;
        }
        return (double) sumOfHeats(0) / (double) out;
    }

    // ---- text

    public int append(int value) throws IllegalArgumentException, IllegalStateException {
        requireWithin(value, 0, MAX_BYTE);
        if (text.length >= MOST_BYTES) {
            throw new IllegalStateException("the text has 180 bytes");
        }
        text.put(value);
        return text.length;
    }

    public int clearText() {
        int previous = text.length;
        text.length = 0;
        return previous;
    }

    public int parse() {
        int fault = text.readInto(parsed);
        if (fault != NONE) {
            return FAULT_BASE - fault;
        }
        history.keep(now);
        now.network.copyFrom(parsed);
        settle();
        return now.network.count;
    }

    // ---- state

    public int undo() throws IllegalStateException {
        if (history.count <= 0) {
            throw new IllegalStateException("there is no saved state");
        }
        history.bringBack(now);
        settle();
        return history.count;
    }

    public long digest() {
        long h = fold(DIGEST_START, text.length);
        for (int what = 0; what <= LAST_NUMBER; what++) {
            h = fold(h, number(what));
        }
        for (int what = 0; what <= LAST_SUMMED_HEAT; what++) {
            h = fold(h, sumOfHeats(what));
        }
        h = foldNodes(h);
        h = foldHeats(h);
        h = foldBoilers(h);
        h = fold(h, regions.suspectCount());
        return fold(h, history.count);
    }

    // ---- what the calls share

    private void settle() {
        actual.settle(now, now.supply);
        regions.takeMeters(now.network);
        regions.settle(now.network);
    }

    private void requireNode(int node) throws IndexOutOfBoundsException {
        if (node < 0 || node >= now.network.count) {
            throw new IndexOutOfBoundsException("there is no such node");
        }
    }

    private void requirePipe(int node) throws IndexOutOfBoundsException {
        if (node < 1 || node >= now.network.count) {
            throw new IndexOutOfBoundsException("there is no such node other than 0");
        }
    }

    private void requireBoiler(int boiler) throws IndexOutOfBoundsException {
        if (boiler < 0 || boiler >= now.boilers.count) {
            throw new IndexOutOfBoundsException("there is no such boiler");
        }
    }

    private static void requireWithin(int given, int low, int high) throws IllegalArgumentException {
        if (given < low || given > high) {
            throw new IllegalArgumentException("an argument is out of range");
        }
    }

    private int nodeFact(int node, int what) {
        Network network = now.network;
        switch (what) {
            case 0: return network.parent[node];
            case 1: return network.length[node];
            case 2: return network.looseness[node];
            case 3: return network.draw[node];
            case 4: return network.setting[node];
            case 5: return network.leak[node];
            case 6: return actual.flow[node];
            case 7: return actual.warmth[node];
            case 8: return node == 0 ? NONE : actual.returnOf(network, node);
            case 9: return network.childrenOf(node);
            case 10: return network.branchOf(node);
            default: return network.account[node];
        }
    }

    private int heatOf(int node, int what) {
        Network network = now.network;
        switch (what) {
            case 0: return deliveredBy(node);
            case 1: return actual.flow[node] * (actual.warmthAbove(network, node) - actual.warmth[node]);
            case 2: return network.leak[node] * actual.warmth[node];
            case 3: return actual.back[node];
            case 4: return actual.flow[node] * actual.warmthAbove(network, node);
            default: return billOf(node);
        }
    }

    private int deliveredBy(int node) {
        return now.network.draw[node] * (actual.warmth[node] - actual.returnOf(now.network, node));
    }

    private int billOf(int node) {
        int overMark = actual.returnOf(now.network, node) - now.mark;
        return deliveredBy(node) * now.price / 1000 + now.network.draw[node] * overMark * now.bonus / 1000;
    }

    private int number(int what) {
        switch (what) {
            case 0: return now.supply;
            case 1: return now.ground;
            case 2: return now.price;
            case 3: return now.mark;
            case 4: return now.bonus;
            case 5: return now.network.count;
            case 6: return now.boilers.count;
            case 7: return actual.need;
            case 8: return actual.unmet;
            case 9: return actual.costs;
            case 10: return now.costs;
            case 11: return now.hours;
            case 12: return now.network.accounts();
            case 13: return actual.back[0];
            default: return now.network.meters();
        }
    }

    private int sumOfHeats(int what) {
        int total = 0;
        for (int n = 1; n < now.network.count; n++) {
            total += heatOf(n, what);
        }
        return total;
    }

    private int boilerFact(int boiler, int what) {
        Boilers boilers = now.boilers;
        switch (what) {
            case 0: return boilers.capacity[boiler];
            case 1: return boilers.least[boiler];
            case 2: return boilers.cost[boiler];
            case 3: return actual.load[boiler];
            default: return boilers.placeOf(boiler);
        }
    }

    /** Answers the lowest supply with which each node is at least as warm as its wish, or NONE. */
    private int lowestSupplyForWishes() {
        trial.settleFlows(now.network);
        int tooCold = MIN_SUPPLY - 1;
        // a warmer supply leaves no node colder, so halved steps close in on the border
        for (int step = WIDEST_STEP; step > 0; step /= 2) {
            int tried = tooCold + step;
            if (tried <= MAX_SUPPLY && !grantsWishes(tried)) {
                tooCold = tried;
            }
        }
        return tooCold < MAX_SUPPLY ? tooCold + 1 : NONE;
    }

    private boolean grantsWishes(int supply) {
        trial.settleWarmth(now, supply);
        for (int n = 1; n < now.network.count; n++) {
            if (trial.warmth[n] < wishes[n]) {
                return false;
            }
        }
        return true;
    }

    private static long fold(long h, long v) {
        return 31 * h + v;
    }

    private long foldNodes(long start) {
        long h = start;
        for (int n = 0; n < now.network.count; n++) {
            for (int what = 0; what <= LAST_NODE_FACT; what++) {
                h = fold(h, nodeFact(n, what));
            }
            h = fold(h, regions.balanceAt(n));
            h = fold(h, regions.sizeAt(n));
            h = fold(h, regions.nextPlace(n));
        }
        return h;
    }

    private long foldHeats(long start) {
        long h = start;
        for (int n = 1; n < now.network.count; n++) {
            for (int what = 0; what <= LAST_HEAT; what++) {
                h = fold(h, heatOf(n, what));
            }
        }
        return h;
    }

    private long foldBoilers(long start) {
        long h = start;
        for (int b = 0; b < now.boilers.count; b++) {
            for (int what = 0; what <= LAST_BOILER_FACT; what++) {
                h = fold(h, boilerFact(b, what));
            }
        }
        return h;
    }

    private static void copyRow(int[] from, int[] to) {
        System.arraycopy(from, 0, to, 0, Math.min(from.length, to.length));
    }

    /** The nodes with their pipes; node 0 is the boiler house, parents have lower numbers. */
    private static final class Network {
        final int[] parent = new int[MOST_NODES];
        final int[] length = new int[MOST_NODES];
        final int[] looseness = new int[MOST_NODES];
        final int[] draw = new int[MOST_NODES];
        final int[] setting = new int[MOST_NODES];
        final int[] leak = new int[MOST_NODES];
        /** 1 for a meter, 0 for none; that of node 0, which is always there, is not noted. */
        final int[] meter = new int[MOST_NODES];
        final int[] account = new int[MOST_NODES];
        int count = 1;

        Network() {
            parent[0] = NONE;
        }

        /** Answers the number of the new node, or NONE if there is no room. */
        int attach(int above, int pipeLength, int pipeLooseness, int flowDrawn, int returnSetting) {
            int added = count;
            if (added >= MOST_NODES) {
                return NONE;
            }
            parent[added] = above;
            length[added] = pipeLength;
            looseness[added] = pipeLooseness;
            draw[added] = flowDrawn;
            setting[added] = returnSetting;
            leak[added] = 0;
            meter[added] = 0;
            account[added] = 0;
            count = added + 1;
            return added;
        }

        void copyFrom(Network other) {
            copyRow(other.parent, parent);
            copyRow(other.length, length);
            copyRow(other.looseness, looseness);
            copyRow(other.draw, draw);
            copyRow(other.setting, setting);
            copyRow(other.leak, leak);
            copyRow(other.meter, meter);
            copyRow(other.account, account);
            count = other.count;
        }

        /** Whether a node hangs below another one, so that the other one's number is an index. */
        boolean hasParent(int node) {
            return parent[node] >= 0 && parent[node] < node;
        }

        int childrenOf(int node) {
            int children = 0;
            for (int n = node + 1; n < count; n++) {
                if (parent[n] == node) {
                    children++;
                }
            }
            return children;
        }

        int branchOf(int node) {
            int branch = 1 << node;
            for (int n = node + 1; n < count; n++) {
                if (hasParent(n) && ((branch >> parent[n]) & 1) != 0) {
                    branch |= 1 << n;
                }
            }
            return Integer.bitCount(branch);
        }

        int meters() {
            int meters = 0;
            for (int n = 1; n < count; n++) {
                meters += meter[n];
            }
            return meters;
        }

        int accounts() {
            int total = 0;
            for (int n = 1; n < count; n++) {
                total += account[n];
            }
            return total;
        }
    }

    private static final class Boilers {
        final int[] capacity = new int[MOST_BOILERS];
        final int[] least = new int[MOST_BOILERS];
        final int[] cost = new int[MOST_BOILERS];
        int count = 0;

        /** Answers the number of the new boiler, or NONE if there is no room. */
        int install(int highestLoad, int leastLoad, int costOfHeat) {
            int added = count;
            if (added >= MOST_BOILERS) {
                return NONE;
            }
            capacity[added] = highestLoad;
            least[added] = leastLoad;
            cost[added] = costOfHeat;
            count = added + 1;
            return added;
        }

        void copyFrom(Boilers other) {
            copyRow(other.capacity, capacity);
            copyRow(other.least, least);
            copyRow(other.cost, cost);
            count = other.count;
        }

        int placeOf(int boiler) {
            int place = 0;
            for (int b = 0; b < count; b++) {
                if (cost[b] < cost[boiler] || (cost[b] == cost[boiler] && b < boiler)) {
                    place++;
                }
            }
            return place;
        }

        /** Answers the boiler with a place in the order, or NONE. */
        int atPlace(int place) {
            for (int b = 0; b < count; b++) {
                if (placeOf(b) == place) {
                    return b;
                }
            }
            return NONE;
        }
    }

    /** All that an undo brings back. */
    private static final class State {
        final Network network = new Network();
        final Boilers boilers = new Boilers();
        int supply = 800;
        int ground = 80;
        int price = 50;
        int mark = 400;
        int bonus = 10;
        int hours = 0;
        int costs = 0;

        void copyFrom(State other) {
            network.copyFrom(other.network);
            boilers.copyFrom(other.boilers);
            supply = other.supply;
            ground = other.ground;
            price = other.price;
            mark = other.mark;
            bonus = other.bonus;
            hours = other.hours;
            costs = other.costs;
        }
    }

    /** The saved states, in a ring: the oldest one makes room for the newest one. */
    private static final class History {
        final State[] saved = new State[MOST_SAVED];
        int oldest = 0;
        int count = 0;

        History() {
            for (int i = 0; i < MOST_SAVED; i++) {
                saved[i] = new State();
            }
        }

        State slot(int age) {
            int place = (oldest + age) % MOST_SAVED;
            return place >= 0 ? saved[place] : null;
        }

        void keep(State state) {
            State slot = slot(count);
            if (slot == null) {
                return;
            }
            slot.copyFrom(state);
            if (count < MOST_SAVED) {
                count++;
            } else {
                oldest = (oldest + 1) % MOST_SAVED;
            }
        }

        void bringBack(State state) {
            State slot = slot(count - 1);
            if (slot == null) {
                return;
            }
            state.copyFrom(slot);
            count--;
        }
    }

    /** What an hour is like with a supply: flows, temperatures, returns, the need and the loads. */
    private static final class Hour {
        final int[] flow = new int[MOST_NODES];
        final int[] warmth = new int[MOST_NODES];
        /** The returns of the branches. */
        final int[] back = new int[MOST_NODES];
        final int[] load = new int[MOST_BOILERS];
        int need = 0;
        int unmet = 0;
        int costs = 0;

        void settle(State state, int supply) {
            settleFlows(state.network);
            settleWarmth(state, supply);
            settleReturns(state.network);
            need = Math.max(0, flow[0] * supply - back[0]);
            settleLoads(state.boilers);
        }

        void settleFlows(Network network) {
            for (int n = 0; n < network.count; n++) {
                flow[n] = network.draw[n] + network.leak[n];
            }
            addUpTheTree(network, flow);
        }

        /** Needs the flows. */
        void settleWarmth(State state, int supply) {
            Network network = state.network;
            warmth[0] = supply;
            for (int n = 1; n < network.count; n++) {
                int wholeLooseness = network.looseness[n] * network.length[n];
                warmth[n] = warmthBehind(warmthAbove(network, n), state.ground, wholeLooseness, flow[n]);
            }
        }

        /** Needs the temperatures. */
        void settleReturns(Network network) {
            for (int n = 0; n < network.count; n++) {
                back[n] = network.draw[n] * returnOf(network, n);
            }
            addUpTheTree(network, back);
        }

        void settleLoads(Boilers boilers) {
            int left = need;
            costs = 0;
            for (int place = 0; place < boilers.count; place++) {
                int b = boilers.atPlace(place);
                if (b == NONE) {
                    continue;
                }
                load[b] = Math.min(boilers.capacity[b], left);
                if (load[b] > 0 && load[b] < boilers.least[b]) {
                    load[b] = boilers.least[b];
                    left = 0;
                } else {
                    left -= load[b];
                }
                costs += load[b] * boilers.cost[b] / 1000;
            }
            unmet = left;
        }

        int returnOf(Network network, int node) {
            return Math.min(network.setting[node], warmth[node]);
        }

        int warmthAbove(Network network, int node) {
            return network.hasParent(node) ? warmth[network.parent[node]] : 0;
        }

        static int warmthBehind(int above, int ground, int wholeLooseness, int flow) {
            if (flow <= 0) {
                return Math.min(above, ground);
            }
            if (above <= ground) {
                return above;
            }
            int excess = above - ground;
            return above - Math.min(excess, excess * wholeLooseness / (1000 * flow));
        }

        /** Adds what each node has to what its parent has, from the ends of the branches on. */
        static void addUpTheTree(Network network, int[] row) {
            for (int n = network.count - 1; n > 0; n--) {
                if (network.hasParent(n)) {
                    row[network.parent[n]] += row[n];
                }
            }
        }
    }

    /** The regions of the meters, for meters that may be others than those of the network. */
    private static final class Regions {
        final int[] meter = new int[MOST_NODES];
        /** The node with the meter in whose region a node is. */
        final int[] head = new int[MOST_NODES];
        /** How many nodes of its region are in the branch of a node. */
        final int[] inBranch = new int[MOST_NODES];
        /** By the node with the meter: the nodes of its region, and the sum of their leaks. */
        final int[] size = new int[MOST_NODES];
        final int[] leaks = new int[MOST_NODES];
        int count = 1;

        void takeMeters(Network network) {
            copyRow(network.meter, meter);
        }

        void giveMeter(int node) {
            if (node >= 0 && node < MOST_NODES) {
                meter[node] = 1;
            }
        }

        void settle(Network network) {
            count = network.count;
            clearCounts();
            for (int n = 1; n < count; n++) {
                int top = hasMeter(n) ? n : headAbove(network, n);
                head[n] = top;
                size[top]++;
                leaks[top] += network.leak[n];
            }
            countBranches(network);
        }

        void clearCounts() {
            head[0] = 0;
            for (int n = 0; n < count; n++) {
                size[n] = 0;
                leaks[n] = 0;
                inBranch[n] = n == 0 ? 0 : 1;
            }
        }

        int headAbove(Network network, int node) {
            int top = network.hasParent(node) ? head[network.parent[node]] : 0;
            return top >= 0 && top < node ? top : 0;
        }

        void countBranches(Network network) {
            for (int n = count - 1; n > 0; n--) {
                if (!hasMeter(n) && network.hasParent(n)) {
                    inBranch[network.parent[n]] += inBranch[n];
                }
            }
        }

        boolean hasMeter(int node) {
            return node == 0 || meter[node] != 0;
        }

        int balanceAt(int node) {
            return hasMeter(node) ? leaks[node] : NONE;
        }

        int sizeAt(int node) {
            return hasMeter(node) ? size[node] : NONE;
        }

        int suspectCount() {
            int suspects = 0;
            for (int n = 0; n < count; n++) {
                if (balanceAt(n) > 0) {
                    suspects++;
                }
            }
            return suspects;
        }

        int nextPlace(int node) {
            if (balanceAt(node) <= 0 || size[node] <= 1) {
                return NONE;
            }
            int best = NONE;
            int bestGap = 0;
            for (int n = 1; n < count; n++) {
                if (head[n] == node && !hasMeter(n)) {
                    int gap = Math.abs(2 * inBranch[n] - size[node]);
                    if (best == NONE || gap < bestGap) {
                        best = n;
                        bestGap = gap;
                    }
                }
            }
            return best;
        }

        /** Answers the next place in the region with the lowest number that has one, or NONE. */
        int firstNextPlace() {
            for (int n = 0; n < count; n++) {
                int place = nextPlace(n);
                if (place != NONE) {
                    return place;
                }
            }
            return NONE;
        }
    }

    /** The network text, and the reading of it. */
    private static final class NetworkText {
        final int[] bytes = new int[MOST_BYTES];
        int length = 0;
        /** Where the reading stands, and the syntax error position, or NONE. */
        int at = 0;
        int fault = NONE;

        void put(int value) {
            if (length < MOST_BYTES) {
                bytes[length] = value;
                length++;
            }
        }

        /** Answers the syntax error position, or NONE; only without an error the nodes are all there. */
        int readInto(Network network) {
            network.count = 1;
            at = 0;
            fault = NONE;
            for (int node = 1; node < MOST_NODES && at < length && fault == NONE; node++) {
                readNode(network, node);
            }
            if (fault == NONE && at < length) {
                fault = at;
            }
            return fault;
        }

        void readNode(Network network, int node) {
            int parent = readNumber(2, 0, node - 1, ',');
            int pipeLength = readNumber(3, 1, MAX_LENGTH, ',');
            int looseness = readNumber(2, 0, MAX_LOOSENESS, ',');
            int draw = readNumber(3, 0, MAX_DRAW, ',');
            int setting = readNumber(4, 0, MAX_SETTING, ';');
            if (fault == NONE) {
                network.attach(parent, pipeLength, looseness, draw, setting);
            }
        }

        /** Reads a number and the byte behind it; after a fault it reads nothing any more. */
        int readNumber(int mostDigits, int low, int high, int end) {
            if (fault != NONE) {
                return 0;
            }
            int first = at;
            int read = 0;
            while (at < length && isDigit(bytes[at]) && at - first < mostDigits) {
                read = 10 * read + bytes[at] - '0';
                at++;
            }
            boolean oneMore = at < length && isDigit(bytes[at]);
            if (at == first || oneMore) {
                fault = at;
            } else if (read < low || read > high) {
                fault = first;
            } else if (at >= length || bytes[at] != end) {
                fault = at;
            } else {
                at++;
            }
            return read;
        }

        static boolean isDigit(int value) {
            return value >= '0' && value <= '9';
        }
    }
}
