/** Boundary cases of promises 22 to 25: the questions that change nothing. */
public final class WhatIfEdgesTest {
    private static final Class<?> INDEX = Checks.INDEX;
    private static final Class<?> ARGUMENT = Checks.ARGUMENT;

    public static void main(String[] args) {
        supplyForArguments();
        supplyOnTheScale();
        eachSupplyCanBeTheAnswer();
        supplyOfSeveral();
        supplyWithoutFlow();
        supplyAboveTheGround();
        supplyOfALowerNode();
        cheapestJustWarmEnough();
        cheapestWithoutADraw();
        cheapestJustMet();
        cheapestOfSeveral();
        savesArguments();
        savesNothing();
        savesSomething();
        savesBelowZero();
        efficiency();
        questionsToAFullNetwork();
        nothingChanges();
        Checks.finish("WhatIfEdgesTest");
    }

    private static HeatBranches pipe(int length, int looseness, int draw, int setting) {
        HeatBranches x = new HeatBranches();
        x.addNode(0, length, looseness, draw, setting);
        return x;
    }

    private static void supplyForArguments() {
        Edges.range("a node to be warm", INDEX, 1, 3, Samples::busy, (x, v) -> x.supplyFor(v, 0));
        Edges.range("a node to be warm in full", INDEX, 1, 15, Samples::full, (x, v) -> x.supplyFor(v, 0));
        Edges.refused("a warm boiler house", INDEX, Samples::busy, x -> x.supplyFor(0, 400));
        Edges.range("a wanted temperature", ARGUMENT, -200, 1200, Samples::busy, (x, v) -> x.supplyFor(1, v));
        Edges.refused("no node, nothing to want", INDEX, Samples::busy, x -> x.supplyFor(0, 1201));
        Edges.refused("no node, nothing to want", INDEX, Samples::busy, x -> x.supplyFor(4, -201));
    }

    private static void supplyOnTheScale() {
        HeatBranches x = pipe(1, 0, 1, 0);
        int[] wanted = {-200, 399, 400, 401, 1199, 1200};
        int[] supply = {400, 400, 400, 401, 1199, 1200};
        for (int i = 0; i < wanted.length; i++) {
            Checks.due("supply for " + wanted[i], x.supplyFor(1, wanted[i]), supply[i]);
        }
        HeatBranches losing = pipe(1, 1, 1, 0);
        Checks.due("1 of 1120 is lost", losing.supplyFor(1, 1199), 1200);
        Checks.due("more than the warmest", losing.supplyFor(1, 1200), -1);
    }

    private static void eachSupplyCanBeTheAnswer() {
        HeatBranches low = pipe(1, 0, 1, 0);
        for (int wanted = 400; wanted <= 800; wanted++) {
            Checks.due("supply for " + wanted, low.supplyFor(1, wanted), wanted);
        }
        HeatBranches high = pipe(1, 0, 1, 0);
        for (int wanted = 800; wanted <= 1200; wanted++) {
            Checks.due("supply for " + wanted, high.supplyFor(1, wanted), wanted);
        }
    }

    /** T is s - (s - 80) / 2: 240 at 400, 241 at 401 and 402, 640 at 1199 and 1200. */
    private static void supplyOfSeveral() {
        HeatBranches x = pipe(500, 1, 1, 0);
        int[] wanted = {239, 240, 241, 242, 639, 640, 641};
        int[] supply = {400, 400, 401, 403, 1197, 1199, -1};
        for (int i = 0; i < wanted.length; i++) {
            Checks.due("lowest supply for " + wanted[i], x.supplyFor(1, wanted[i]), supply[i]);
        }
    }

    private static void supplyWithoutFlow() {
        HeatBranches x = pipe(1, 0, 0, 0);
        Checks.due("the ground", x.supplyFor(1, 80), 400);
        Checks.due("one above the ground", x.supplyFor(1, 81), -1);
        x.setTemperatures(1200, 300);
        Checks.due("the warmest ground", x.supplyFor(1, 300), 400);
        Checks.due("one above it", x.supplyFor(1, 301), -1);
        x.setTemperatures(400, -200);
        Checks.due("the coldest ground", x.supplyFor(1, -200), 400);
        Checks.due("one above it", x.supplyFor(1, -199), -1);
        x.setLeak(1, 1);
        Checks.due("a leak is a flow", x.supplyFor(1, 700), 700);
    }

    private static void supplyAboveTheGround() {
        HeatBranches x = pipe(500, 50, 1, 0);
        Checks.due("all is lost on the way", x.supplyFor(1, 80), 400);
        Checks.due("one more can't be", x.supplyFor(1, 81), -1);
    }

    /** The second pipe loses half of what the first one leaves. */
    private static void supplyOfALowerNode() {
        HeatBranches x = pipe(1, 0, 0, 0);
        x.addNode(1, 500, 1, 1, 0);
        Checks.due("the lowest supply", x.supplyFor(2, 240), 400);
        Checks.due("the highest answer", x.supplyFor(2, 640), 1199);
        Checks.due("no answer", x.supplyFor(2, 641), -1);
        Checks.due("the node above", x.supplyFor(1, 641), 641);
    }

    private static HeatBranches heated(int draw, int setting) {
        HeatBranches x = pipe(1, 0, draw, setting);
        x.addBoiler(9999999, 0, 99);
        return x;
    }

    private static void cheapestJustWarmEnough() {
        Checks.due("a setting of 0", heated(1, 0).cheapestSupply(), 400);
        Checks.due("100 above 299", heated(1, 299).cheapestSupply(), 400);
        Checks.due("100 above 300", heated(1, 300).cheapestSupply(), 400);
        Checks.due("100 above 301", heated(1, 301).cheapestSupply(), 401);
        Checks.due("100 above 1100", heated(1, 1100).cheapestSupply(), 1200);
        Checks.due("100 above 1101", heated(1, 1101).cheapestSupply(), -1);
        Checks.due("100 above 1200", heated(1, 1200).cheapestSupply(), -1);
        HeatBranches two = heated(1, 500);
        two.addNode(0, 1, 0, 1, 700);
        two.addNode(0, 1, 0, 1, 600);
        Checks.due("each of three", two.cheapestSupply(), 800);
    }

    private static void cheapestWithoutADraw() {
        HeatBranches x = heated(0, 1200);
        Checks.due("no draw", x.cheapestSupply(), 400);
        x.setLeak(1, 100);
        Checks.due("only a leak", x.cheapestSupply(), 400);
        x.setDraw(1, 1, 1200);
        Checks.due("a draw of 1", x.cheapestSupply(), -1);
        HeatBranches none = pipe(1, 0, 0, 1200);
        Checks.due("no boilers, no need", none.cheapestSupply(), 400);
        none.setLeak(1, 1);
        Checks.due("no boilers, a need", none.cheapestSupply(), -1);
    }

    /** At a supply of 400 the need is 100. */
    private static void cheapestJustMet() {
        HeatBranches x = pipe(1, 0, 1, 300);
        x.addBoiler(99, 0, 0);
        Checks.due("1 is unmet", x.cheapestSupply(), -1);
        x.addBoiler(1, 0, 99);
        Checks.due("0 is unmet", x.cheapestSupply(), 400);
        HeatBranches least = pipe(1, 0, 1, 300);
        least.addBoiler(9999999, 9999999, 99);
        Checks.due("a least load", least.cheapestSupply(), 400);
        x.setTemperatures(1200, 80);
        Checks.due("unmet now, but not then", x.value(8), 800);
        Checks.due("from the highest supply", x.cheapestSupply(), 400);
    }

    private static void cheapestOfSeveral() {
        HeatBranches free = pipe(1, 0, 1, 500);
        free.addBoiler(9999999, 0, 0);
        Checks.due("all are free", free.cheapestSupply(), 600);
        HeatBranches least = pipe(1, 0, 1, 0);
        least.addBoiler(5000, 5000, 99);
        Checks.due("all cost the least load", least.cheapestSupply(), 400);
        Checks.due("nothing to heat", new HeatBranches().cheapestSupply(), 400);
    }

    private static void savesArguments() {
        Edges.range("a leak to mend", INDEX, 1, 3, Samples::busy, (x, v) -> x.saves(v));
        Edges.range("a leak to mend in full", INDEX, 1, 15, Samples::full, (x, v) -> x.saves(v));
        Edges.refused("the leak of the boiler house", INDEX, Samples::busy, x -> x.saves(0));
    }

    private static void savesNothing() {
        HeatBranches x = heated(5, 0);
        Checks.due("no leak", x.saves(1), 0);
        HeatBranches cold = pipe(1, 0, 5, 0);
        cold.setLeak(1, 100);
        Checks.due("no boilers", cold.saves(1), 0);
        cold.addBoiler(4000, 0, 99);
        Checks.due("unmet with the leak, met without it", cold.saves(1), 0);
        HeatBranches least = pipe(1, 0, 5, 0);
        least.setLeak(1, 100);
        least.addBoiler(9999999, 9999999, 99);
        Checks.due("the least load in any case", least.saves(1), 0);
    }

    private static void savesSomething() {
        HeatBranches x = pipe(1, 0, 0, 0);
        x.setLeak(1, 1);
        x.addBoiler(1000, 0, 1);
        Checks.due("costs of 800 / 1000", x.saves(1), 0);
        x.setTemperatures(1000, 80);
        Checks.due("costs of 1000 / 1000", x.saves(1), 1);
        x.setLeak(1, 100);
        Checks.due("unmet heat plays no part", x.saves(1), 1);
        HeatBranches most = heated(0, 0);
        most.setLeak(1, 100);
        most.setTemperatures(1200, 80);
        Checks.due("the whole need of 120000", most.saves(1), 11880);
        most.addNode(1, 1, 0, 0, 0);
        most.setLeak(2, 50);
        Checks.due("only the leak of the one", most.saves(2), 17820 - 11880);
    }

    /**
     * With the leak flows of 27 and 26, temperatures of 399 and -176, a need of 14801; without it
     * 26 and 25, 399 and -200, 15001: the return gets colder by more than the leak took.
     */
    private static void savesBelowZero() {
        HeatBranches x = new HeatBranches();
        x.setTemperatures(400, -200);
        x.addNode(0, 50, 1, 1, 1200);
        x.addNode(1, 500, 50, 25, 1200);
        x.setLeak(2, 1);
        x.addBoiler(9999999, 0, 99);
        Checks.due("the need with the leak", x.value(7), 14801);
        Checks.due("saves below 0", x.saves(2), 1465 - 1485);
    }

    private static void efficiency() {
        Checks.dueDouble("no flow", pipe(1, 0, 0, 0).efficiency(), 0.0);
        Checks.dueDouble("all is delivered", pipe(1, 0, 500, 0).efficiency(), 1.0);
        Checks.dueDouble("nothing is delivered", pipe(1, 0, 500, 1200).efficiency(), 0.0);
        Checks.dueDouble("1 of 800", pipe(1, 0, 1, 799).efficiency(), 1.0 / 800.0);
        HeatBranches leak = pipe(1, 0, 0, 0);
        leak.setLeak(1, 1);
        Checks.dueDouble("only a leak", leak.efficiency(), 0.0);
        leak.setDraw(1, 2, 0);
        Checks.dueDouble("2 of 3", leak.efficiency(), 1600.0 / 2400.0);
        leak.setTemperatures(400, -200);
        leak.setLeak(1, 0);
        leak.setDraw(1, 1, 399);
        Checks.dueDouble("1 of 400", leak.efficiency(), 1.0 / 400.0);
        leak.addNode(0, 1, 0, 1, 397);
        Checks.dueDouble("4 of two pipes with 400", leak.efficiency(), 4.0 / 800.0);
    }

    /** A draw of 1 and a setting of 0 at each of 15 tight pipes: the need is 15 times the supply. */
    private static void questionsToAFullNetwork() {
        HeatBranches x = Samples.full();
        Checks.due("need", x.value(7), 12000);
        Checks.due("cheapest supply", x.cheapestSupply(), 400);
        Checks.due("supply for the last node", x.supplyFor(15, 900), 900);
        Checks.dueDouble("all is delivered", x.efficiency(), 1.0);
        x.setDraw(15, 1, 777);
        Checks.due("the last node decides", x.cheapestSupply(), 877);
        x.setLeak(15, 1);
        Checks.due("need", x.value(7), 16 * 800 - 777);
        Checks.due("costs of 5000, 5000 and 2023", x.value(9), 5000 * 1 / 1000 + 2023 * 2 / 1000);
        x.setCost(2, 99);
        Checks.due("boiler 3 comes ahead of boiler 2", x.boiler(3, 3), 2023);
        Checks.due("a load of 2023 or 1223", x.saves(15), 2023 * 3 / 1000 - 1223 * 3 / 1000);
        x.setMeter(15, false);
        Checks.due("its meter is to be found", x.metersToFind(), 1);
    }

    private static void nothingChanges() {
        HeatBranches x = Samples.busy();
        x.supplyFor(2, 1200);
        x.supplyFor(3, -200);
        x.cheapestSupply();
        x.saves(2);
        x.saves(1);
        x.efficiency();
        x.metersToFind();
        Edges.alike("behind the questions", x, Samples.busy());
        Edges.notUndoable("supplyFor", Samples::busy, y -> y.supplyFor(1, 500));
        Edges.notUndoable("cheapestSupply", Samples::busy, HeatBranches::cheapestSupply);
        Edges.notUndoable("saves", Samples::busy, y -> y.saves(2));
        Edges.notUndoable("efficiency", Samples::busy, y -> (long) y.efficiency());
    }
}
