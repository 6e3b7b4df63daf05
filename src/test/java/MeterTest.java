/** Promises 15 to 21: meters, their regions and the search for leaks. */
public final class MeterTest {
    private static final int[] EDGES = {Integer.MIN_VALUE, -1, 9, Integer.MAX_VALUE};

    public static void main(String[] args) {
        setMeter();
        regions();
        search();
        nextPlaces();
        refusals();
        Checks.finish("MeterTest");
    }

    private static void rowIs(String what, int[] got, int... want) {
        for (int i = 0; i < want.length; i++) {
            Checks.due(what + "(" + i + ")", got[i], want[i]);
        }
    }

    private static int[] balances(HeatBranches x) {
        int[] row = new int[x.value(5)];
        for (int n = 0; n < row.length; n++) {
            row[n] = x.balance(n);
        }
        return row;
    }

    private static int[] sizes(HeatBranches x) {
        int[] row = new int[x.value(5)];
        for (int n = 0; n < row.length; n++) {
            row[n] = x.region(n);
        }
        return row;
    }

    private static int[] nexts(HeatBranches x) {
        int[] row = new int[x.value(5)];
        for (int n = 0; n < row.length; n++) {
            row[n] = x.nextMeter(n);
        }
        return row;
    }

    private static void setMeter() {
        HeatBranches x = Samples.tree();
        Checks.due("a meter", x.setMeter(2, true), 1);
        Checks.due("the same meter", x.setMeter(2, true), 1);
        Checks.due("another one", x.setMeter(8, true), 2);
        Checks.due("meters", x.value(14), 2);
        Checks.due("taken away", x.setMeter(2, false), 1);
        Checks.due("none to take away", x.setMeter(3, false), 1);
        Checks.due("undo", x.undo(), 3);
        Checks.due("setMeter is undoable", x.undo(), 2);
        Checks.due("meters after undo", x.value(14), 2);
        Checks.due("node 2 has its meter", x.region(2), 4);
    }

    private static void regions() {
        HeatBranches x = Samples.tree();
        rowIs("balance without meters", balances(x), 10, -1, -1, -1, -1, -1, -1, -1, -1);
        rowIs("region without meters", sizes(x), 8, -1, -1, -1, -1, -1, -1, -1, -1);
        Checks.due("suspects without meters", x.suspects(), 1);
        x.setMeter(2, true);
        x.setMeter(4, true);
        x.setMeter(7, true);
        rowIs("balance", balances(x), 0, -1, 0, -1, 4, -1, -1, 6, -1);
        rowIs("region", sizes(x), 2, -1, 2, -1, 2, -1, -1, 2, -1);
        int[] heads = {0, 0, 2, 2, 4, 4, 0, 7, 7};
        for (int n = 1; n < heads.length; n++) {
            Checks.due("meterOf(" + n + ")", x.meterOf(n), heads[n]);
        }
        Checks.due("suspects", x.suspects(), 2);
        Checks.due("leaks between meters", x.setLeak(3, 1), 0);
        Checks.due("suspects then", x.suspects(), 3);
        Checks.due("balance then", x.balance(2), 1);
        HeatBranches empty = new HeatBranches();
        Checks.due("balance of nothing", empty.balance(0), 0);
        Checks.due("region of nothing", empty.region(0), 0);
        Checks.due("suspects of nothing", empty.suspects(), 0);
        Checks.due("next place in nothing", empty.nextMeter(0), -1);
        Checks.due("nothing to find", empty.metersToFind(), 0);
    }

    private static void search() {
        HeatBranches x = Samples.tree();
        Checks.due("meters to find", x.metersToFind(), 5);
        Checks.due("none is set by the search", x.value(14), 0);
        int[] heads = {0, 0, 0, 2, 4};
        int[] places = {2, 1, 8, 4, 5};
        for (int i = 0; i < heads.length; i++) {
            Checks.due("place " + i, x.nextMeter(heads[i]), places[i]);
            x.setMeter(places[i], true);
            Checks.due("meters to find behind place " + i, x.metersToFind(), 4 - i);
        }
        rowIs("next at the end", nexts(x), -1, -1, -1, -1, -1, -1, -1, -1, -1);
        rowIs("balance at the end", balances(x), 0, 0, 0, -1, 0, 4, -1, -1, 6);
        rowIs("region at the end", sizes(x), 1, 2, 2, -1, 1, 1, -1, -1, 1);
        Checks.due("suspects at the end", x.suspects(), 2);
    }

    private static void nextPlaces() {
        HeatBranches x = new HeatBranches();
        x.addNode(0, 1, 0, 5, 0);
        x.setLeak(1, 1);
        Checks.due("a region with one node", x.nextMeter(0), -1);
        Checks.due("nothing to set", x.metersToFind(), 0);
        x.addNode(0, 1, 0, 5, 0);
        x.addNode(0, 1, 0, 5, 0);
        Checks.due("the lowest of equal ones", x.nextMeter(0), 1);
        Checks.due("no meter, no place", x.nextMeter(1), -1);
        x.setLeak(1, 0);
        Checks.due("not suspect", x.nextMeter(0), -1);
        HeatBranches chain = new HeatBranches();
        for (int n = 1; n < 16; n++) {
            chain.addNode(n - 1, 1, 0, 1, 0);
        }
        chain.setLeak(15, 7);
        Checks.due("half way of a chain", chain.nextMeter(0), 8);
        Checks.due("halves of a chain", chain.metersToFind(), 4);
        chain.setMeter(1, true);
        Checks.due("the node with the meter is no place", chain.nextMeter(1), 8);
        Checks.due("an empty region of node 0", chain.region(0), 0);
        for (int n = 1; n < 16; n++) {
            chain.setMeter(n, true);
        }
        Checks.due("meters everywhere", chain.value(14), 15);
        Checks.due("nothing to set then", chain.metersToFind(), 0);
    }

    private static void refusals() {
        HeatBranches x = Samples.tree();
        Checks.refused(x, Checks.INDEX, "setMeter(0)", () -> x.setMeter(0, true));
        Checks.refused(x, Checks.INDEX, "meterOf(0)", () -> x.meterOf(0));
        for (int edge : EDGES) {
            Checks.refused(x, Checks.INDEX, "setMeter(" + edge + ")", () -> x.setMeter(edge, false));
            Checks.refused(x, Checks.INDEX, "balance(" + edge + ")", () -> x.balance(edge));
            Checks.refused(x, Checks.INDEX, "region(" + edge + ")", () -> x.region(edge));
            Checks.refused(x, Checks.INDEX, "meterOf(" + edge + ")", () -> x.meterOf(edge));
            Checks.refused(x, Checks.INDEX, "nextMeter(" + edge + ")", () -> x.nextMeter(edge));
        }
    }
}
