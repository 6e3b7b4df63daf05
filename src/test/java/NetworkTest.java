/** Promises 1 to 9: the new object, nodes, temperatures and heat. */
public final class NetworkTest {
    private static final int[] EDGES = {Integer.MIN_VALUE, -1, Integer.MAX_VALUE};

    public static void main(String[] args) {
        newObject();
        addNode();
        addNodeRefusals();
        setDraw();
        setLeak();
        setTemperatures();
        nodeFacts();
        temperatures();
        heats();
        bills();
        values();
        sums();
        twoStreets();
        fullNetwork();
        Checks.finish("NetworkTest");
    }

    private static void nodeIs(String what, HeatBranches x, int node, int... want) {
        for (int i = 0; i < want.length; i++) {
            Checks.due(what + ": node(" + node + ", " + i + ")", x.node(node, i), want[i]);
        }
    }

    private static void heatIs(String what, HeatBranches x, int node, int... want) {
        for (int i = 0; i < want.length; i++) {
            Checks.due(what + ": heat(" + node + ", " + i + ")", x.heat(node, i), want[i]);
        }
    }

    private static void newObject() {
        HeatBranches x = new HeatBranches();
        int[] want = {800, 80, 50, 400, 10, 1, 0, 0, 0, 0, 0, 0, 0, 0, 0};
        for (int i = 0; i < want.length; i++) {
            Checks.due("new: value(" + i + ")", x.value(i), want[i]);
        }
        nodeIs("new", x, 0, -1, 0, 0, 0, 0, 0, 0, 800, -1, 0, 1, 0);
        Checks.due("new: clearText", x.clearText(), 0);
        Checks.refused(x, Checks.STATE, "new: undo", x::undo);
    }

    private static void addNode() {
        HeatBranches x = new HeatBranches();
        Checks.due("first node", x.addNode(0, 1, 0, 0, 0), 1);
        Checks.due("second node", x.addNode(1, 500, 50, 500, 1200), 2);
        nodeIs("low edges", x, 1, 0, 1, 0, 0, 0, 0);
        nodeIs("high edges", x, 2, 1, 500, 50, 500, 1200, 0);
        Checks.due("nodes", x.value(5), 3);
        Checks.due("addNode is undoable", x.undo(), 1);
        Checks.due("nodes after undo", x.value(5), 2);
        x.setLeak(1, 9);
        x.setMeter(1, true);
        x.pass(7);
        x.undo();
        x.undo();
        x.undo();
        Checks.due("a node in a place used before", x.addNode(0, 2, 3, 4, 5), 2);
        nodeIs("it is new", x, 2, 0, 2, 3, 4, 5, 0);
        Checks.due("its account", x.node(2, 11), 0);
        Checks.due("its meter", x.balance(2), -1);
    }

    private static void addNodeRefusals() {
        HeatBranches x = new HeatBranches();
        Checks.refused(x, Checks.INDEX, "parent 1 of 1", () -> x.addNode(1, 1, 0, 0, 0));
        Checks.refused(x, Checks.INDEX, "parent ahead of length", () -> x.addNode(-1, 0, 0, 0, 0));
        Checks.refused(x, Checks.ARGUMENT, "length 0", () -> x.addNode(0, 0, 0, 0, 0));
        Checks.refused(x, Checks.ARGUMENT, "length 501", () -> x.addNode(0, 501, 0, 0, 0));
        Checks.refused(x, Checks.ARGUMENT, "looseness 51", () -> x.addNode(0, 1, 51, 0, 0));
        Checks.refused(x, Checks.ARGUMENT, "draw 501", () -> x.addNode(0, 1, 0, 501, 0));
        Checks.refused(x, Checks.ARGUMENT, "setting 1201", () -> x.addNode(0, 1, 0, 0, 1201));
        for (int edge : EDGES) {
            Checks.refused(x, Checks.INDEX, "parent " + edge, () -> x.addNode(edge, 1, 0, 0, 0));
            Checks.refused(x, Checks.ARGUMENT, "length " + edge, () -> x.addNode(0, edge, 0, 0, 0));
            Checks.refused(x, Checks.ARGUMENT, "looseness " + edge, () -> x.addNode(0, 1, edge, 0, 0));
            Checks.refused(x, Checks.ARGUMENT, "draw " + edge, () -> x.addNode(0, 1, 0, edge, 0));
            Checks.refused(x, Checks.ARGUMENT, "setting " + edge, () -> x.addNode(0, 1, 0, 0, edge));
        }
        for (int n = 1; n < 16; n++) {
            Checks.due("node " + n, x.addNode(n - 1, 1, 0, 1, 0), n);
        }
        Checks.refused(x, Checks.STATE, "a 17th node", () -> x.addNode(0, 1, 0, 0, 0));
        Checks.refused(x, Checks.INDEX, "parent ahead of the room", () -> x.addNode(16, 1, 0, 0, 0));
        Checks.refused(x, Checks.ARGUMENT, "length ahead of the room", () -> x.addNode(15, 0, 0, 0, 0));
    }

    private static void setDraw() {
        HeatBranches x = Samples.street();
        Checks.due("setDraw", x.setDraw(1, 500, 1200), 20);
        nodeIs("after setDraw", x, 1, 0, 100, 10, 500, 1200, 0, 515);
        Checks.due("setDraw again", x.setDraw(1, 0, 0), 500);
        nodeIs("after setDraw again", x, 1, 0, 100, 10, 0, 0, 0, 15);
        Checks.due("setDraw is undoable", x.undo(), 3);
        Checks.due("draw after undo", x.node(1, 3), 500);
        Checks.due("setting after undo", x.node(1, 4), 1200);
        Checks.refused(x, Checks.INDEX, "setDraw of node 0", () -> x.setDraw(0, 501, 0));
        Checks.refused(x, Checks.INDEX, "setDraw of node 4", () -> x.setDraw(4, 0, 0));
        Checks.refused(x, Checks.ARGUMENT, "draw 501", () -> x.setDraw(3, 501, 0));
        Checks.refused(x, Checks.ARGUMENT, "setting 1201", () -> x.setDraw(3, 0, 1201));
        for (int edge : EDGES) {
            Checks.refused(x, Checks.INDEX, "node " + edge, () -> x.setDraw(edge, 0, 0));
            Checks.refused(x, Checks.ARGUMENT, "draw " + edge, () -> x.setDraw(1, edge, 0));
            Checks.refused(x, Checks.ARGUMENT, "setting " + edge, () -> x.setDraw(1, 0, edge));
        }
    }

    private static void setLeak() {
        HeatBranches x = Samples.street();
        Checks.due("setLeak", x.setLeak(2, 100), 5);
        Checks.due("setLeak to 0", x.setLeak(2, 0), 100);
        Checks.due("setLeak that changes nothing", x.setLeak(2, 0), 0);
        Checks.due("undo of nothing", x.undo(), 3);
        Checks.due("leak is still 0", x.node(2, 5), 0);
        Checks.due("setLeak is undoable", x.undo(), 2);
        Checks.due("leak after undo", x.node(2, 5), 100);
        Checks.due("flow after undo", x.node(0, 6), 130);
        Checks.refused(x, Checks.INDEX, "setLeak of node 0", () -> x.setLeak(0, 101));
        Checks.refused(x, Checks.INDEX, "setLeak of node 4", () -> x.setLeak(4, 0));
        Checks.refused(x, Checks.ARGUMENT, "leak 101", () -> x.setLeak(1, 101));
        for (int edge : EDGES) {
            Checks.refused(x, Checks.INDEX, "setLeak of " + edge, () -> x.setLeak(edge, 0));
            Checks.refused(x, Checks.ARGUMENT, "leak " + edge, () -> x.setLeak(1, edge));
        }
    }

    private static void setTemperatures() {
        HeatBranches x = Samples.street();
        Checks.due("setTemperatures", x.setTemperatures(1200, -200), 800);
        Checks.due("supply", x.value(0), 1200);
        Checks.due("ground", x.value(1), -200);
        Checks.due("T(0)", x.node(0, 7), 1200);
        Checks.due("setTemperatures again", x.setTemperatures(400, 300), 1200);
        Checks.due("T(3)", x.node(3, 7), 300);
        Checks.due("setTemperatures is undoable", x.undo(), 3);
        Checks.due("T(3) after undo", x.node(3, 7), -200);
        Checks.refused(x, Checks.ARGUMENT, "supply 399", () -> x.setTemperatures(399, 0));
        Checks.refused(x, Checks.ARGUMENT, "supply 1201", () -> x.setTemperatures(1201, 0));
        Checks.refused(x, Checks.ARGUMENT, "ground -201", () -> x.setTemperatures(400, -201));
        Checks.refused(x, Checks.ARGUMENT, "ground 301", () -> x.setTemperatures(400, 301));
        for (int edge : new int[] {Integer.MIN_VALUE, Integer.MAX_VALUE}) {
            Checks.refused(x, Checks.ARGUMENT, "supply " + edge, () -> x.setTemperatures(edge, 0));
            Checks.refused(x, Checks.ARGUMENT, "ground " + edge, () -> x.setTemperatures(400, edge));
        }
    }

    private static void nodeFacts() {
        HeatBranches x = Samples.street();
        nodeIs("street", x, 0, -1, 0, 0, 0, 0, 0, 35, 800, -1, 1, 4, 0);
        nodeIs("street", x, 1, 0, 100, 10, 20, 400, 0, 35, 780, 400, 2, 3, 0);
        nodeIs("street", x, 2, 1, 200, 20, 10, 300, 5, 15, 594, 300, 0, 1, 0);
        nodeIs("street", x, 3, 1, 50, 5, 0, 500, 0, 0, 80, 80, 0, 1, 0);
        x.pass(3);
        Checks.due("account", x.node(1, 11), 1140);
        Checks.due("account", x.node(2, 11), 411);
        Checks.due("account of node 0", x.node(0, 11), 0);
        HeatBranches tree = Samples.tree();
        int[] children = {2, 2, 2, 0, 1, 0, 0, 1, 0};
        int[] branch = {9, 6, 4, 1, 2, 1, 1, 2, 1};
        for (int n = 0; n < 9; n++) {
            Checks.due("children of " + n, tree.node(n, 9), children[n]);
            Checks.due("branch of " + n, tree.node(n, 10), branch[n]);
        }
        Checks.refused(x, Checks.INDEX, "node(4, 0)", () -> x.node(4, 0));
        Checks.refused(x, Checks.INDEX, "node ahead of what", () -> x.node(-1, 12));
        Checks.refused(x, Checks.ARGUMENT, "node(0, 12)", () -> x.node(0, 12));
        for (int edge : EDGES) {
            Checks.refused(x, Checks.INDEX, "node(" + edge + ", 0)", () -> x.node(edge, 0));
            Checks.refused(x, Checks.ARGUMENT, "node(0, " + edge + ")", () -> x.node(0, edge));
        }
    }

    private static void temperatures() {
        HeatBranches x = new HeatBranches();
        x.addNode(0, 500, 50, 1, 1200);
        Checks.due("no colder than the ground", x.node(1, 7), 80);
        x.addNode(1, 500, 50, 30, 100);
        Checks.due("620 of 720 lost", x.node(1, 7), 800 - 720 * 25000 / 31000);
        x.setDraw(2, 0, 100);
        Checks.due("behind a pipe without flow", x.node(2, 7), 80);
        x.setDraw(2, 1, 100);
        x.setDraw(1, 0, 0);
        Checks.due("all lost ahead", x.node(1, 7), 80);
        Checks.due("not above the ground", x.node(2, 7), 80);
        x.setTemperatures(400, -200);
        Checks.due("a return below 0", x.node(2, 8), -200);
        x.setDraw(1, 24, 0);
        Checks.due("600 of 600 lost by a hair", x.node(1, 7), -200);
        x.setDraw(1, 25, 0);
        Checks.due("576 of 600 lost", x.node(1, 7), 400 - 600 * 25000 / 26000);
    }

    private static void heats() {
        HeatBranches x = Samples.street();
        heatIs("street", x, 1, 7600, 700, 0, 11000, 28000, 380);
        heatIs("street", x, 2, 2940, 2790, 2970, 3000, 11700, 137);
        heatIs("street", x, 3, 0, 0, 0, 0, 0, 0);
        Checks.refused(x, Checks.INDEX, "heat(0, 0)", () -> x.heat(0, 0));
        Checks.refused(x, Checks.INDEX, "heat(4, 0)", () -> x.heat(4, 0));
        Checks.refused(x, Checks.INDEX, "node ahead of what", () -> x.heat(0, 6));
        Checks.refused(x, Checks.ARGUMENT, "heat(1, 6)", () -> x.heat(1, 6));
        for (int edge : EDGES) {
            Checks.refused(x, Checks.INDEX, "heat(" + edge + ", 0)", () -> x.heat(edge, 0));
            Checks.refused(x, Checks.ARGUMENT, "heat(1, " + edge + ")", () -> x.heat(1, edge));
        }
    }

    private static void bills() {
        HeatBranches x = new HeatBranches();
        x.addNode(0, 1, 0, 1, 299);
        x.setTariff(999, 400, 99);
        Checks.due("two divisions, one below 0", x.heat(1, 5), 501 * 999 / 1000 - 101 * 99 / 1000);
        x.setTariff(1, 400, 99);
        Checks.due("a bill below 0", x.heat(1, 5), -9);
        x.setTariff(0, 1200, 99);
        x.setDraw(1, 500, 0);
        Checks.due("the lowest bonus", x.heat(1, 5), -59400);
    }

    private static void values() {
        HeatBranches x = Samples.heatedStreet();
        x.setTariff(51, 401, 11);
        x.setTariff(50, 400, 10);
        x.setMeter(3, true);
        x.pass(3);
        int[] want = {800, 80, 50, 400, 10, 4, 3, 17000, 0, 520, 1560, 3, 1551, 11000, 1};
        for (int i = 0; i < want.length; i++) {
            Checks.due("street: value(" + i + ")", x.value(i), want[i]);
        }
        HeatBranches cold = Samples.street();
        cold.addBoiler(16000, 0, 1);
        Checks.due("unmet", cold.value(8), 1000);
        Checks.refused(x, Checks.ARGUMENT, "value(15)", () -> x.value(15));
        for (int edge : EDGES) {
            Checks.refused(x, Checks.ARGUMENT, "value(" + edge + ")", () -> x.value(edge));
        }
    }

    private static void sums() {
        HeatBranches x = Samples.street();
        Checks.due("delivered", x.sum(0), 10540);
        Checks.due("lost", x.sum(1), 3490);
        Checks.due("leaked", x.sum(2), 2970);
        Checks.refused(x, Checks.ARGUMENT, "sum(3)", () -> x.sum(3));
        for (int edge : EDGES) {
            Checks.refused(x, Checks.ARGUMENT, "sum(" + edge + ")", () -> x.sum(edge));
        }
    }

    /** Two pipes leave the boiler house: all that is told of node 0 is told of both. */
    private static void twoStreets() {
        HeatBranches x = Samples.street();
        x.addNode(0, 1, 0, 5, 100);
        nodeIs("two streets", x, 0, -1, 0, 0, 0, 0, 0, 40, 800, -1, 2, 5, 0);
        heatIs("two streets", x, 4, 3500, 0, 0, 500, 4000, 175 - 15);
        Checks.due("return at node 0", x.value(13), 11500);
        Checks.due("need", x.value(7), 40 * 800 - 11500);
        Checks.due("delivered", x.sum(0), 10540 + 3500);
        Checks.dueDouble("efficiency", x.efficiency(), 14040.0 / 32000.0);
    }

    private static void fullNetwork() {
        HeatBranches x = new HeatBranches();
        for (int n = 1; n < 16; n++) {
            x.addNode(n / 2, 1, 0, 1, 300);
        }
        x.addBoiler(9999999, 0, 0);
        Checks.due("flow", x.node(0, 6), 15);
        Checks.due("delivered", x.sum(0), 15 * 500);
        Checks.due("return", x.value(13), 15 * 300);
        Checks.due("branch of the boiler house", x.node(0, 10), 16);
        Checks.due("supplyFor(15, 555)", x.supplyFor(15, 555), 555);
        Checks.due("cheapestSupply", x.cheapestSupply(), 400);
        Checks.due("saves(15)", x.saves(15), 0);
        Checks.due("pass", x.pass(2), 2);
        Checks.due("sum of all accounts", x.value(12), 15 * 2 * (500 * 50 / 1000 - 100 * 10 / 1000));
        Checks.due("nothing to find", x.metersToFind(), 0);
        x.setLeak(15, 1);
        Checks.due("a leak at the end", x.nextMeter(0), 2);
    }
}
