/** Boundary cases of promises 2 to 6, and of 'Network' and 'Flows': nodes, pipes and what is told of them. */
public final class NetworkEdgesTest {
    private static final Class<?> INDEX = Checks.INDEX;
    private static final Class<?> ARGUMENT = Checks.ARGUMENT;
    private static final Class<?> STATE = Checks.STATE;

    public static void main(String[] args) {
        sixteenNodes();
        parents();
        addNodeArguments();
        addNodeFirstListed();
        aNewNode();
        setDraw();
        setLeak();
        setTemperatures();
        nodeNumbers();
        nodeWhats();
        boilerHouse();
        childrenAndBranches();
        flows();
        undoables();
        Checks.finish("NetworkEdgesTest");
    }

    private static HeatBranches star(int nodes) {
        HeatBranches x = new HeatBranches();
        for (int n = 1; n < nodes; n++) {
            x.addNode(0, 1, 0, 1, 0);
        }
        return x;
    }

    private static void sixteenNodes() {
        HeatBranches x = new HeatBranches();
        for (int n = 1; n < 16; n++) {
            Checks.due("number of the node", x.addNode(0, 1, 0, 1, 0), n);
        }
        Checks.due("nodes", x.value(5), 16);
        Edges.refused("a 17th node", STATE, () -> star(16), y -> y.addNode(0, 1, 0, 1, 0));
        Edges.refused("a 17th node", STATE, Samples::full, y -> y.addNode(15, 500, 50, 500, 1200));
        x.undo();
        Checks.due("a 16th node once more", x.addNode(0, 1, 0, 1, 0), 15);
        x.parse();
        Checks.due("room behind an empty text", x.addNode(0, 1, 0, 1, 0), 1);
    }

    private static void parents() {
        for (int nodes : new int[] {1, 2, 15}) {
            Edges.range("a parent", INDEX, 0, nodes - 1, () -> star(nodes), (x, v) -> x.addNode(v, 1, 0, 0, 0));
        }
        HeatBranches x = star(15);
        Checks.due("a node below the last one", x.addNode(14, 1, 0, 0, 0), 15);
        Checks.due("its parent", x.node(15, 0), 14);
    }

    private static void addNodeArguments() {
        Edges.keptRange("a length", 1, 500, Samples::busy, (x, v) -> x.addNode(0, v, 0, 0, 0), x -> x.node(4, 1));
        Edges.keptRange("a looseness", 0, 50, Samples::busy, (x, v) -> x.addNode(0, 1, v, 0, 0), x -> x.node(4, 2));
        Edges.keptRange("a draw", 0, 500, Samples::busy, (x, v) -> x.addNode(0, 1, 0, v, 0), x -> x.node(4, 3));
        Edges.keptRange("a setting", 0, 1200, Samples::busy, (x, v) -> x.addNode(0, 1, 0, 0, v), x -> x.node(4, 4));
    }

    private static void addNodeFirstListed() {
        Edges.refused("no parent, no length", INDEX, Samples::busy, x -> x.addNode(4, 0, 0, 0, 0));
        Edges.refused("no parent, no looseness", INDEX, Samples::busy, x -> x.addNode(-1, 1, 51, 0, 0));
        Edges.refused("no parent, no draw", INDEX, Samples::busy, x -> x.addNode(4, 1, 0, 501, 0));
        Edges.refused("no parent, no setting", INDEX, Samples::busy, x -> x.addNode(4, 1, 0, 0, 1201));
        Edges.refused("no parent, no room", INDEX, Samples::full, x -> x.addNode(16, 1, 0, 0, 0));
        Edges.refused("no parent below 0, no room", INDEX, Samples::full, x -> x.addNode(-1, 1, 0, 0, 0));
        Edges.refused("nothing at all", INDEX, Samples::full, x -> x.addNode(16, 0, 51, -1, 1201));
        Edges.refused("no length, no room", ARGUMENT, Samples::full, x -> x.addNode(0, 0, 0, 0, 0));
        Edges.refused("no looseness, no room", ARGUMENT, Samples::full, x -> x.addNode(0, 1, 51, 0, 0));
        Edges.refused("no draw, no room", ARGUMENT, Samples::full, x -> x.addNode(0, 1, 0, 501, 0));
        Edges.refused("no setting, no room", ARGUMENT, Samples::full, x -> x.addNode(0, 1, 0, 0, -1));
    }

    /** Where another node has been before the undo, too. */
    private static void aNewNode() {
        HeatBranches x = star(2);
        x.addNode(0, 9, 9, 9, 9);
        x.setLeak(2, 100);
        x.setMeter(2, true);
        x.pass(1);
        for (int i = 0; i < 4; i++) {
            x.undo();
        }
        x.addNode(0, 1, 0, 0, 0);
        Checks.due("leak at first", x.node(2, 5), 0);
        Checks.due("meter at first", x.region(2), -1);
        Checks.due("account at first", x.node(2, 11), 0);
    }

    private static void setDraw() {
        Edges.range("a node to draw", INDEX, 1, 3, Samples::busy, (x, v) -> x.setDraw(v, 1, 1));
        Edges.range("a node to draw in full", INDEX, 1, 15, Samples::full, (x, v) -> x.setDraw(v, 1, 1));
        Edges.refused("the boiler house to draw", INDEX, Samples::busy, x -> x.setDraw(0, 0, 0));
        Edges.keptRange("a draw", 0, 500, Samples::busy, (x, v) -> x.setDraw(3, v, 0), x -> x.node(3, 3));
        Edges.keptRange("a setting", 0, 1200, Samples::busy, (x, v) -> x.setDraw(3, 0, v), x -> x.node(3, 4));
        Edges.refused("no node, no draw", INDEX, Samples::busy, x -> x.setDraw(4, 501, 0));
        Edges.refused("no node, no setting", INDEX, Samples::busy, x -> x.setDraw(0, 0, -1));
    }

    private static void setLeak() {
        Edges.range("a node to leak", INDEX, 1, 3, Samples::busy, (x, v) -> x.setLeak(v, 1));
        Edges.range("a node to leak in full", INDEX, 1, 15, Samples::full, (x, v) -> x.setLeak(v, 1));
        Edges.refused("the boiler house to leak", INDEX, Samples::busy, x -> x.setLeak(0, 0));
        Edges.keptRange("a leak", 0, 100, Samples::busy, (x, v) -> x.setLeak(3, v), x -> x.node(3, 5));
        Edges.refused("no node, no leak", INDEX, Samples::busy, x -> x.setLeak(0, 101));
    }

    private static void setTemperatures() {
        Edges.keptRange("a supply", 400, 1200, Samples::busy, (x, v) -> x.setTemperatures(v, 9), x -> x.value(0));
        Edges.keptRange("a ground", -200, 300, Samples::busy, (x, v) -> x.setTemperatures(500, v), x -> x.value(1));
        Edges.refused("no supply, no ground", ARGUMENT, Samples::busy, x -> x.setTemperatures(399, 301));
        Edges.refused("the two exchanged", ARGUMENT, Samples::busy, x -> x.setTemperatures(300, 400));
    }

    private static void nodeNumbers() {
        Edges.range("a node", INDEX, 0, 0, HeatBranches::new, (x, v) -> x.node(v, 0));
        Edges.range("a node", INDEX, 0, 3, Samples::busy, (x, v) -> x.node(v, 0));
        Edges.range("a node in full", INDEX, 0, 15, Samples::full, (x, v) -> x.node(v, 11));
        Edges.refused("a node that was undone", INDEX, () -> {
            HeatBranches x = star(3);
            x.undo();
            return x;
        }, x -> x.node(2, 0));
    }

    private static void nodeWhats() {
        Edges.range("what of node 0", ARGUMENT, 0, 11, Samples::busy, (x, v) -> x.node(0, v));
        Edges.range("what of node 3", ARGUMENT, 0, 11, Samples::busy, (x, v) -> x.node(3, v));
        Edges.refused("no node, no what", INDEX, Samples::busy, x -> x.node(4, 12));
        Edges.refused("no node, no what", INDEX, Samples::busy, x -> x.node(-1, -1));
    }

    private static void boilerHouse() {
        HeatBranches x = Samples.full();
        Checks.due("no parent", x.node(0, 0), -1);
        for (int what = 1; what <= 5; what++) {
            Checks.due("node(0, " + what + ")", x.node(0, what), 0);
        }
        Checks.due("flow out", x.node(0, 6), 15);
        Checks.due("T(0)", x.node(0, 7), 800);
        Checks.due("no return", x.node(0, 8), -1);
        Checks.due("no account", x.node(0, 11), 0);
        Checks.due("the lowest supply", lowestSupply().node(0, 7), 400);
    }

    private static HeatBranches lowestSupply() {
        HeatBranches x = Samples.full();
        x.setTemperatures(400, 300);
        return x;
    }

    private static void childrenAndBranches() {
        HeatBranches empty = new HeatBranches();
        Checks.due("no children", empty.node(0, 9), 0);
        Checks.due("a branch of itself", empty.node(0, 10), 1);
        HeatBranches star = star(16);
        Checks.due("all are children", star.node(0, 9), 15);
        Checks.due("all are in the branch", star.node(0, 10), 16);
        Checks.due("a leaf has no children", star.node(15, 9), 0);
        Checks.due("a leaf is in its branch", star.node(15, 10), 1);
        Checks.due("those beside it are not", star.node(1, 10), 1);
        HeatBranches chain = Samples.full();
        for (int n = 0; n < 16; n++) {
            Checks.due("children in a chain", chain.node(n, 9), n < 15 ? 1 : 0);
            Checks.due("branch in a chain", chain.node(n, 10), 16 - n);
        }
    }

    private static void flows() {
        HeatBranches empty = new HeatBranches();
        Checks.due("nothing flows", empty.node(0, 6), 0);
        HeatBranches chain = new HeatBranches();
        for (int n = 1; n < 16; n++) {
            chain.addNode(n - 1, 500, 50, 500, 1200);
            chain.setLeak(n, 100);
        }
        for (int n = 1; n < 16; n++) {
            Checks.due("the highest flow of " + n, chain.node(n, 6), (16 - n) * 600);
        }
        Checks.due("the highest flow out", chain.node(0, 6), 9000);
        chain.setDraw(15, 0, 0);
        chain.setLeak(15, 0);
        Checks.due("no draw, no leak, no children", chain.node(15, 6), 0);
        chain.setLeak(15, 1);
        Checks.due("only a leak", chain.node(15, 6), 1);
    }

    private static void undoables() {
        Edges.undoable("addNode", Samples::busy, x -> x.addNode(3, 1, 1, 1, 1));
        Edges.undoable("setDraw", Samples::busy, x -> x.setDraw(1, 1, 1));
        Edges.undoable("setLeak", Samples::busy, x -> x.setLeak(1, 1));
        Edges.undoable("setTemperatures", Samples::busy, x -> x.setTemperatures(401, 1));
        Edges.undoable("setDraw that changes nothing", Samples::busy, x -> x.setDraw(1, 20, 400));
        Edges.undoable("setLeak that changes nothing", Samples::busy, x -> x.setLeak(2, 5));
        Edges.undoable("setTemperatures that changes nothing", Samples::busy, x -> x.setTemperatures(800, 80));
        Edges.notUndoable("node", Samples::busy, x -> x.node(1, 6));
    }
}
