import java.util.ArrayList;
import java.util.List;

/**
 * The document once more, in the slowest and most literal form: everything is worked out anew by
 * recursion, and every what-if question by trying. RandomRunsTest sets it beside the program.
 */
final class Model {
    static final class Node {
        Node parent;
        int number;
        int length;
        int looseness;
        int draw;
        int setting;
        int leak;
        int account;
        boolean meter;
        final List<Node> children = new ArrayList<>();
    }

    static final class Boiler {
        int number;
        int capacity;
        int least;
        int cost;
        int load;
    }

    static final class World {
        List<Node> nodes = new ArrayList<>();
        List<Boiler> boilers = new ArrayList<>();
        int supply = 800;
        int ground = 80;
        int price = 50;
        int mark = 400;
        int bonus = 10;
        int hours;
        int costs;

        World() {
            Node house = new Node();
            house.meter = true;
            nodes.add(house);
        }

        World copy() {
            World w = new World();
            for (Node n : nodes.subList(1, nodes.size())) {
                Node c = w.hang(n.parent.number, n.length, n.looseness, n.draw, n.setting);
                c.leak = n.leak;
                c.account = n.account;
                c.meter = n.meter;
            }
            for (Boiler b : boilers) {
                w.install(b.capacity, b.least, b.cost);
            }
            w.supply = supply;
            w.ground = ground;
            w.price = price;
            w.mark = mark;
            w.bonus = bonus;
            w.hours = hours;
            w.costs = costs;
            return w;
        }

        Node hang(int parent, int length, int looseness, int draw, int setting) {
            Node n = new Node();
            n.parent = nodes.get(parent);
            n.number = nodes.size();
            n.length = length;
            n.looseness = looseness;
            n.draw = draw;
            n.setting = setting;
            n.parent.children.add(n);
            nodes.add(n);
            return n;
        }

        void install(int capacity, int least, int cost) {
            Boiler b = new Boiler();
            b.number = boilers.size();
            b.capacity = capacity;
            b.least = least;
            b.cost = cost;
            boilers.add(b);
        }

        int flow(Node n) {
            int f = n.number == 0 ? 0 : n.draw + n.leak;
            for (Node c : n.children) {
                f += flow(c);
            }
            return f;
        }

        int t(Node n) {
            if (n.number == 0) {
                return supply;
            }
            int above = t(n.parent);
            int f = flow(n);
            if (f == 0) {
                return above < ground ? above : ground;
            }
            if (above <= ground) {
                return above;
            }
            long lost = (long) (above - ground) * n.looseness * n.length / (1000L * f);
            return lost > above - ground ? ground : (int) (above - lost);
        }

        int r(Node n) {
            return n.setting < t(n) ? n.setting : t(n);
        }

        int back(Node n) {
            int sum = n.number == 0 ? 0 : n.draw * r(n);
            for (Node c : n.children) {
                sum += back(c);
            }
            return sum;
        }

        int delivered(Node n) {
            return n.draw * (t(n) - r(n));
        }

        int lost(Node n) {
            return flow(n) * (t(n.parent) - t(n));
        }

        int bill(Node n) {
            return delivered(n) * price / 1000 + n.draw * (r(n) - mark) * bonus / 1000;
        }

        int need() {
            int need = flow(nodes.get(0)) * supply - back(nodes.get(0));
            return need < 0 ? 0 : need;
        }

        List<Boiler> order() {
            List<Boiler> order = new ArrayList<>(boilers);
            order.sort((a, b) -> a.cost != b.cost ? a.cost - b.cost : a.number - b.number);
            return order;
        }

        /** Sets the loads and answers what is unmet. */
        int fire() {
            int left = need();
            for (Boiler b : order()) {
                b.load = Math.min(b.capacity, left);
                if (b.load > 0 && b.load < b.least) {
                    b.load = b.least;
                    left = 0;
                } else {
                    left -= b.load;
                }
            }
            return left;
        }

        int hourCosts() {
            fire();
            int sum = 0;
            for (Boiler b : boilers) {
                sum += b.load * b.cost / 1000;
            }
            return sum;
        }

        List<Node> branch(Node n) {
            List<Node> all = new ArrayList<>();
            all.add(n);
            for (Node c : n.children) {
                all.addAll(branch(c));
            }
            return all;
        }

        List<Node> region(Node n) {
            List<Node> all = new ArrayList<>();
            if (n.number != 0) {
                all.add(n);
            }
            for (Node c : n.children) {
                if (!c.meter) {
                    all.addAll(region(c));
                }
            }
            return all;
        }

        List<Node> topmostMetersBelow(Node n) {
            List<Node> all = new ArrayList<>();
            for (Node c : n.children) {
                if (c.meter) {
                    all.add(c);
                } else {
                    all.addAll(topmostMetersBelow(c));
                }
            }
            return all;
        }

        int balance(Node n) {
            if (!n.meter) {
                return -1;
            }
            int balance = flow(n);
            for (Node m : region(n)) {
                balance -= m.draw;
            }
            for (Node m : topmostMetersBelow(n)) {
                balance -= flow(m);
            }
            return balance;
        }

        int next(Node n) {
            if (!n.meter || balance(n) <= 0 || region(n).size() < 2) {
                return -1;
            }
            List<Node> region = region(n);
            int best = -1;
            int bestGap = Integer.MAX_VALUE;
            for (Node m : nodes) {
                if (region.contains(m) && !m.meter) {
                    List<Node> both = branch(m);
                    both.retainAll(region);
                    int gap = Math.abs(2 * both.size() - region.size());
                    if (gap < bestGap) {
                        best = m.number;
                        bestGap = gap;
                    }
                }
            }
            return best;
        }

        int suspects() {
            int count = 0;
            for (Node n : nodes) {
                count += balance(n) > 0 ? 1 : 0;
            }
            return count;
        }
    }

    World w = new World();
    final List<World> saved = new ArrayList<>();
    final StringBuilder text = new StringBuilder();

    private void save() {
        saved.add(w.copy());
        if (saved.size() > 4) {
            saved.remove(0);
        }
    }

    private Node at(int node, int from) {
        if (node < from || node >= w.nodes.size()) {
            throw new IndexOutOfBoundsException();
        }
        return w.nodes.get(node);
    }

    private Boiler boilerAt(int boiler) {
        if (boiler < 0 || boiler >= w.boilers.size()) {
            throw new IndexOutOfBoundsException();
        }
        return w.boilers.get(boiler);
    }

    private static void check(boolean good) {
        if (!good) {
            throw new IllegalArgumentException();
        }
    }

    private static boolean in(int v, int low, int high) {
        return low <= v && v <= high;
    }

    int addNode(int parent, int length, int looseness, int draw, int setting) {
        at(parent, 0);
        check(in(length, 1, 500) && in(looseness, 0, 50) && in(draw, 0, 500) && in(setting, 0, 1200));
        if (w.nodes.size() == 16) {
            throw new IllegalStateException();
        }
        save();
        return w.hang(parent, length, looseness, draw, setting).number;
    }

    int setDraw(int node, int draw, int setting) {
        Node n = at(node, 1);
        check(in(draw, 0, 500) && in(setting, 0, 1200));
        save();
        int previous = n.draw;
        n.draw = draw;
        n.setting = setting;
        return previous;
    }

    int setLeak(int node, int leak) {
        Node n = at(node, 1);
        check(in(leak, 0, 100));
        save();
        int previous = n.leak;
        n.leak = leak;
        return previous;
    }

    int setTemperatures(int supply, int ground) {
        check(in(supply, 400, 1200) && in(ground, -200, 300));
        save();
        int previous = w.supply;
        w.supply = supply;
        w.ground = ground;
        return previous;
    }

    int node(int node, int what) {
        Node n = at(node, 0);
        check(in(what, 0, 11));
        boolean house = node == 0;
        int[] facts = {house ? -1 : n.parent.number, n.length, n.looseness, n.draw, n.setting, n.leak, w.flow(n),
            w.t(n), house ? -1 : w.r(n), n.children.size(), w.branch(n).size(), n.account};
        return facts[what];
    }

    int heat(int node, int what) {
        Node n = at(node, 1);
        check(in(what, 0, 5));
        int[] heats = {w.delivered(n), w.lost(n), n.leak * w.t(n), w.back(n), w.flow(n) * w.t(n.parent), w.bill(n)};
        return heats[what];
    }

    int value(int what) {
        check(in(what, 0, 14));
        int accounts = 0;
        int meters = -1;
        for (Node n : w.nodes) {
            accounts += n.account;
            meters += n.meter ? 1 : 0;
        }
        int[] values = {w.supply, w.ground, w.price, w.mark, w.bonus, w.nodes.size(), w.boilers.size(), w.need(),
            w.fire(), w.hourCosts(), w.costs, w.hours, accounts, w.back(w.nodes.get(0)), meters};
        return values[what];
    }

    int sum(int what) {
        check(in(what, 0, 2));
        int sum = 0;
        for (int n = 1; n < w.nodes.size(); n++) {
            sum += heat(n, what);
        }
        return sum;
    }

    int addBoiler(int capacity, int least, int cost) {
        check(in(capacity, 1, 9999999) && in(least, 0, capacity) && in(cost, 0, 99));
        if (w.boilers.size() == 4) {
            throw new IllegalStateException();
        }
        save();
        w.install(capacity, least, cost);
        return w.boilers.size() - 1;
    }

    int setCost(int boiler, int cost) {
        Boiler b = boilerAt(boiler);
        check(in(cost, 0, 99));
        save();
        int previous = b.cost;
        b.cost = cost;
        return previous;
    }

    int boiler(int boiler, int what) {
        Boiler b = boilerAt(boiler);
        check(in(what, 0, 4));
        w.fire();
        int[] facts = {b.capacity, b.least, b.cost, b.load, w.order().indexOf(b)};
        return facts[what];
    }

    int setTariff(int price, int mark, int bonus) {
        check(in(price, 0, 999) && in(mark, 0, 1200) && in(bonus, 0, 99));
        save();
        int previous = w.price;
        w.price = price;
        w.mark = mark;
        w.bonus = bonus;
        return previous;
    }

    int pass(int hours) {
        check(in(hours, 1, 100));
        if (w.hours + hours > 200) {
            throw new IllegalStateException();
        }
        save();
        for (int i = 0; i < hours; i++) {
            for (Node n : w.nodes.subList(1, w.nodes.size())) {
                n.account += w.bill(n);
            }
            w.costs += w.hourCosts();
            w.hours++;
        }
        return w.hours;
    }

    int setMeter(int node, boolean meter) {
        Node n = at(node, 1);
        save();
        n.meter = meter;
        return value(14);
    }

    int balance(int node) {
        return w.balance(at(node, 0));
    }

    int region(int node) {
        Node n = at(node, 0);
        return n.meter ? w.region(n).size() : -1;
    }

    int meterOf(int node) {
        Node n = at(node, 1);
        while (!n.meter) {
            n = n.parent;
        }
        return n.number;
    }

    int nextMeter(int node) {
        return w.next(at(node, 0));
    }

    int suspects() {
        return w.suspects();
    }

    int metersToFind() {
        World search = w.copy();
        int count = 0;
        boolean found = true;
        while (found) {
            found = false;
            for (Node n : search.nodes) {
                int place = search.next(n);
                if (place != -1) {
                    search.nodes.get(place).meter = true;
                    count++;
                    found = true;
                    break;
                }
            }
        }
        return count;
    }

    int supplyFor(int node, int wanted) {
        at(node, 1);
        check(in(wanted, -200, 1200));
        World trial = w.copy();
        for (int s = 400; s <= 1200; s++) {
            trial.supply = s;
            if (trial.t(trial.nodes.get(node)) >= wanted) {
                return s;
            }
        }
        return -1;
    }

    int cheapestSupply() {
        World trial = w.copy();
        int best = -1;
        int bestCosts = 0;
        for (int s = 400; s <= 1200; s++) {
            trial.supply = s;
            if (trial.fire() == 0 && isWarm(trial) && (best == -1 || trial.hourCosts() < bestCosts)) {
                best = s;
                bestCosts = trial.hourCosts();
            }
        }
        return best;
    }

    private static boolean isWarm(World trial) {
        for (Node n : trial.nodes) {
            if (n.draw > 0 && trial.t(n) < trial.r(n) + 100) {
                return false;
            }
        }
        return true;
    }

    int saves(int node) {
        at(node, 1);
        World trial = w.copy();
        trial.nodes.get(node).leak = 0;
        return w.hourCosts() - trial.hourCosts();
    }

    double efficiency() {
        int out = w.flow(w.nodes.get(0)) * w.supply;
        return out == 0 ? 0.0 : (double) sum(0) / (double) out;
    }

    int append(int value) {
        check(in(value, 0, 127));
        if (text.length() == 180) {
            throw new IllegalStateException();
        }
        text.append((char) value);
        return text.length();
    }

    int clearText() {
        int previous = text.length();
        text.setLength(0);
        return previous;
    }

    int parse() {
        List<int[]> rows = new ArrayList<>();
        int fault = fault(rows);
        if (fault != -1) {
            return -10 - fault;
        }
        save();
        w.nodes = new World().nodes;
        for (int[] row : rows) {
            w.hang(row[0], row[1], row[2], row[3], row[4]);
        }
        return w.nodes.size();
    }

    /** Goes byte by byte, and past the last one the end of the text stands as a byte of its own. */
    private int fault(List<int[]> rows) {
        int[] digits = {2, 3, 2, 3, 4};
        int[] lows = {0, 1, 0, 0, 0};
        int[] highs = {0, 500, 50, 500, 1200};
        int field = 0;
        String number = "";
        int[] row = new int[5];
        for (int i = 0; i <= text.length(); i++) {
            char c = i < text.length() ? text.charAt(i) : 256;
            boolean between = field == 0 && number.isEmpty();
            if (between && c == 256) {
                return -1;
            }
            if (between && rows.size() == 15) {
                return i;
            }
            if (c >= '0' && c <= '9') {
                if (number.length() == digits[field]) {
                    return i;
                }
                number += c;
                continue;
            }
            if (number.isEmpty()) {
                return i;
            }
            int high = field == 0 ? rows.size() : highs[field];
            if (!in(Integer.parseInt(number), lows[field], high)) {
                return i - number.length();
            }
            if (c != (field == 4 ? ';' : ',')) {
                return i;
            }
            row[field] = Integer.parseInt(number);
            number = "";
            field++;
            if (field == 5) {
                rows.add(row);
                row = new int[5];
                field = 0;
            }
        }
        throw new AssertionError("the end of the text always answers");
    }

    int undo() {
        if (saved.isEmpty()) {
            throw new IllegalStateException();
        }
        w = saved.remove(saved.size() - 1);
        return saved.size();
    }

    long digest() {
        List<Integer> all = new ArrayList<>();
        all.add(text.length());
        for (int what = 0; what <= 14; what++) {
            all.add(value(what));
        }
        for (int what = 0; what <= 2; what++) {
            all.add(sum(what));
        }
        for (int n = 0; n < w.nodes.size(); n++) {
            for (int what = 0; what <= 11; what++) {
                all.add(node(n, what));
            }
            all.add(balance(n));
            all.add(region(n));
            all.add(nextMeter(n));
        }
        for (int n = 1; n < w.nodes.size(); n++) {
            for (int what = 0; what <= 5; what++) {
                all.add(heat(n, what));
            }
        }
        for (int b = 0; b < w.boilers.size(); b++) {
            for (int what = 0; what <= 4; what++) {
                all.add(boiler(b, what));
            }
        }
        all.add(w.suspects());
        all.add(saved.size());
        long h = 3407;
        for (int v : all) {
            h = 31 * h + v;
        }
        return h;
    }
}
