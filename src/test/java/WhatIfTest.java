/** Promises 22 to 25: the what-if questions, which change nothing. */
public final class WhatIfTest {
    private static final int[] EDGES = {Integer.MIN_VALUE, -1, Integer.MAX_VALUE};

    public static void main(String[] args) {
        supplyFor();
        cheapestSupply();
        saves();
        efficiency();
        nothingChanges();
        Checks.finish("WhatIfTest");
    }

    private static void supplyFor() {
        HeatBranches x = Samples.street();
        Checks.due("supplyFor(2, 400)", x.supplyFor(2, 400), 528);
        Checks.due("supplyFor(1, 516)", x.supplyFor(1, 516), 528);
        Checks.due("supplyFor(1, 500)", x.supplyFor(1, 500), 512);
        Checks.due("as warm as it can be, by two supplies", x.supplyFor(1, 1168), 1199);
        Checks.due("warmer than it can be", x.supplyFor(1, 1169), -1);
        Checks.due("no flow, the ground", x.supplyFor(3, 80), 400);
        Checks.due("no flow, above the ground", x.supplyFor(3, 81), -1);
        Checks.due("lowest wish", x.supplyFor(2, -200), 400);
        Checks.due("highest wish", x.supplyFor(2, 1200), -1);
        x.addNode(0, 1, 0, 1, 0);
        Checks.due("no loss, highest wish", x.supplyFor(4, 1200), 1200);
        Checks.due("no loss, lowest supply", x.supplyFor(4, 400), 400);
        Checks.due("no loss, one more", x.supplyFor(4, 401), 401);
        Checks.refused(x, Checks.INDEX, "supplyFor(0, 0)", () -> x.supplyFor(0, 0));
        Checks.refused(x, Checks.INDEX, "supplyFor(5, 0)", () -> x.supplyFor(5, 0));
        Checks.refused(x, Checks.INDEX, "node ahead of wanted", () -> x.supplyFor(5, 1201));
        Checks.refused(x, Checks.ARGUMENT, "wanted -201", () -> x.supplyFor(1, -201));
        Checks.refused(x, Checks.ARGUMENT, "wanted 1201", () -> x.supplyFor(1, 1201));
        for (int edge : EDGES) {
            Checks.refused(x, Checks.INDEX, "node " + edge, () -> x.supplyFor(edge, 0));
        }
    }

    private static void cheapestSupply() {
        HeatBranches x = Samples.heatedStreet();
        Checks.due("as warm as node 2 needs it", x.cheapestSupply(), 528);
        x.setDraw(1, 20, 1101);
        Checks.due("a setting out of reach", x.cheapestSupply(), -1);
        cheapestByTrying("another flow", () -> without(2));
        cheapestByTrying("no draw, no wish", () -> without(1));
        HeatBranches cold = Samples.street();
        Checks.due("unmet without boilers", cold.cheapestSupply(), -1);
        cold.addBoiler(7479, 0, 0);
        Checks.due("one too little", cold.cheapestSupply(), -1);
        cold.addBoiler(1, 1, 99);
        Checks.due("just met", cold.cheapestSupply(), 528);
        HeatBranches empty = new HeatBranches();
        Checks.due("nothing to do", empty.cheapestSupply(), 400);
        empty.addNode(0, 1, 0, 1, 300);
        empty.addBoiler(100, 100, 5);
        Checks.due("exactly 100 above", empty.cheapestSupply(), 400);
        empty.setDraw(1, 1, 301);
        Checks.due("one more", empty.cheapestSupply(), 401);
        empty.setDraw(1, 1, 1100);
        Checks.due("the highest one", empty.cheapestSupply(), 1200);
    }

    private static HeatBranches without(int node) {
        HeatBranches x = Samples.heatedStreet();
        x.setLeak(2, 0);
        x.setDraw(node, 0, 1200);
        return x;
    }

    /** Tries each supply, as the document tells it, with an object of its own. */
    private static void cheapestByTrying(String what, Edges.Maker maker) {
        int best = -1;
        int bestCosts = 0;
        for (int s = 400; s <= 1200; s++) {
            HeatBranches x = maker.made();
            x.setTemperatures(s, x.value(1));
            if (isGood(x) && (best < 0 || x.value(9) < bestCosts)) {
                best = s;
                bestCosts = x.value(9);
            }
        }
        Checks.holds("a supply is good", best > 400);
        Checks.due(what, maker.made().cheapestSupply(), best);
    }

    private static boolean isGood(HeatBranches x) {
        boolean good = x.value(8) == 0;
        for (int n = 1; n < x.value(5); n++) {
            good &= x.node(n, 3) == 0 || x.node(n, 7) >= x.node(n, 8) + 100;
        }
        return good;
    }

    private static void saves() {
        HeatBranches x = Samples.heatedStreet();
        Checks.due("saves(2)", x.saves(2), 180);
        Checks.due("no leak there", x.saves(1), 0);
        Checks.due("the leak is still there", x.node(2, 5), 5);
        Checks.refused(x, Checks.INDEX, "saves(0)", () -> x.saves(0));
        Checks.refused(x, Checks.INDEX, "saves(4)", () -> x.saves(4));
        for (int edge : EDGES) {
            Checks.refused(x, Checks.INDEX, "saves(" + edge + ")", () -> x.saves(edge));
        }
    }

    private static void efficiency() {
        HeatBranches x = Samples.street();
        Checks.dueDouble("efficiency", x.efficiency(), 10540.0 / 28000.0);
        Checks.dueDouble("efficiency of nothing", new HeatBranches().efficiency(), 0.0);
        x.setDraw(1, 0, 0);
        x.setDraw(2, 0, 0);
        Checks.dueDouble("only a leak", x.efficiency(), 0.0);
        x.setLeak(2, 0);
        Checks.dueDouble("no flow", x.efficiency(), 0.0);
    }

    private static void nothingChanges() {
        HeatBranches x = Samples.heatedStreet();
        long before = x.digest();
        x.supplyFor(2, 1000);
        x.cheapestSupply();
        x.saves(2);
        x.efficiency();
        x.metersToFind();
        Checks.due("digest behind the questions", x.digest(), before);
    }
}
