/** Boundary cases of promises 7 to 9, and of 'Temperatures', 'Heat' and the bill. */
public final class HeatEdgesTest {
    private static final Class<?> INDEX = Checks.INDEX;
    private static final Class<?> ARGUMENT = Checks.ARGUMENT;

    public static void main(String[] args) {
        withoutFlow();
        lossUpToTheGround();
        lossOfOne();
        oneDivisionForTheLoss();
        atTheGround();
        returns();
        belowZero();
        heatOfNothing();
        needOfAtLeastZero();
        returnOfNodeZero();
        sumsWithoutNodeZero();
        billDivisions();
        billAtTheMark();
        largestHeats();
        arguments();
        Checks.finish("HeatEdgesTest");
    }

    /** A pipe from the boiler house with a draw of 1 and nothing else. */
    private static HeatBranches pipe(int length, int looseness) {
        HeatBranches x = new HeatBranches();
        x.addNode(0, length, looseness, 1, 0);
        return x;
    }

    private static void withoutFlow() {
        HeatBranches x = new HeatBranches();
        x.addNode(0, 1, 0, 0, 1200);
        x.addNode(1, 1, 0, 0, 1200);
        Checks.due("the ground is smaller", x.node(1, 7), 80);
        Checks.due("both are the ground", x.node(2, 7), 80);
        x.setTemperatures(400, 300);
        Checks.due("the warmest ground", x.node(1, 7), 300);
        x.setTemperatures(1200, -200);
        Checks.due("the coldest ground", x.node(2, 7), -200);
        x.setLeak(1, 1);
        Checks.due("a leak is a flow", x.node(1, 7), 1200);
        Checks.due("none behind it", x.node(2, 7), -200);
        x.setLeak(1, 0);
        x.setDraw(2, 1, 0);
        Checks.due("a draw below is a flow", x.node(1, 7), 1200);
    }

    /** The flow is 1, 720 are to be lost: of looseness * length / 1000 = 0.999, 1 and 1.05. */
    private static void lossUpToTheGround() {
        Checks.due("a bit less than all", pipe(27, 37).node(1, 7), 81);
        Checks.due("just all", pipe(20, 50).node(1, 7), 80);
        Checks.due("no more than all", pipe(21, 50).node(1, 7), 80);
        Checks.due("the loosest pipe", pipe(500, 50).node(1, 7), 80);
        Checks.due("the tightest pipe", pipe(500, 0).node(1, 7), 800);
    }

    private static void lossOfOne() {
        HeatBranches x = pipe(1, 1);
        x.setTemperatures(1079, 80);
        Checks.due("999 / 1000", x.node(1, 7), 1079);
        x.setTemperatures(1080, 80);
        Checks.due("1000 / 1000", x.node(1, 7), 1079);
        x.setDraw(1, 2, 0);
        Checks.due("1000 / 2000", x.node(1, 7), 1080);
        HeatBranches y = pipe(2, 1);
        y.setDraw(1, 2, 0);
        y.setTemperatures(1079, 80);
        Checks.due("1998 / 2000", y.node(1, 7), 1079);
        y.setTemperatures(1080, 80);
        Checks.due("2000 / 2000", y.node(1, 7), 1079);
    }

    /** The whole product is divided at once, at the end. */
    private static void oneDivisionForTheLoss() {
        HeatBranches x = pipe(500, 50);
        x.setTemperatures(1200, -200);
        x.setDraw(1, 27, 0);
        Checks.due("1400 * 25000 / 27000", x.node(1, 7), 1200 - 1296);
        x.setDraw(1, 24, 0);
        Checks.due("1400 * 25000 / 24000", x.node(1, 7), -200);
        x.setDraw(1, 25, 0);
        Checks.due("1400 * 25000 / 25000", x.node(1, 7), -200);
        x.setDraw(1, 26, 0);
        Checks.due("1400 * 25000 / 26000", x.node(1, 7), 1200 - 1346);
    }

    private static void atTheGround() {
        HeatBranches x = pipe(20, 50);
        x.addNode(1, 500, 50, 1, 0);
        x.setDraw(1, 0, 0);
        Checks.due("T(p) is the ground", x.node(2, 7), 80);
        Checks.due("nothing is lost there", x.heat(2, 1), 0);
        HeatBranches y = pipe(27, 37);
        y.addNode(1, 27, 37, 1, 0);
        y.addNode(1, 20, 50, 1, 0);
        y.setDraw(1, 0, 0);
        y.setDraw(2, 0, 0);
        Checks.due("T(p) is one above", y.node(1, 7), 81);
        Checks.due("all of the one is lost", y.node(3, 7), 80);
        y.setDraw(3, 0, 0);
        y.setDraw(2, 1, 0);
        Checks.due("0.999 of the one is lost", y.node(2, 7), 81);
    }

    private static void returns() {
        HeatBranches x = pipe(1, 0);
        x.setDraw(1, 3, 799);
        Checks.due("setting one below T", x.node(1, 8), 799);
        Checks.due("delivered", x.heat(1, 0), 3);
        x.setDraw(1, 3, 800);
        Checks.due("setting at T", x.node(1, 8), 800);
        Checks.due("nothing delivered", x.heat(1, 0), 0);
        x.setDraw(1, 3, 801);
        Checks.due("setting one above T", x.node(1, 8), 800);
        Checks.due("nothing delivered", x.heat(1, 0), 0);
        x.setDraw(1, 3, 0);
        Checks.due("the lowest setting", x.node(1, 8), 0);
        Checks.due("all delivered", x.heat(1, 0), 2400);
        x.setDraw(1, 0, 700);
        Checks.due("R without a draw", x.node(1, 8), 80);
    }

    /** A ground below 0 takes temperatures, returns and heats below 0, too. */
    private static void belowZero() {
        HeatBranches x = pipe(500, 50);
        x.setTemperatures(400, -200);
        Checks.due("T", x.node(1, 7), -200);
        Checks.due("R is T", x.node(1, 8), -200);
        Checks.due("delivered", x.heat(1, 0), 0);
        Checks.due("lost", x.heat(1, 1), 600);
        Checks.due("returned", x.heat(1, 3), -200);
        Checks.due("return at node 0", x.value(13), -200);
        Checks.due("need", x.value(7), 600);
        Checks.due("bill", x.heat(1, 5), -6);
        x.setDraw(1, 0, 0);
        x.setLeak(1, 2);
        Checks.due("leaked", x.heat(1, 2), -400);
        Checks.due("sum of the leaked", x.sum(2), -400);
        x.setTemperatures(400, 0);
        Checks.due("T of 0", x.node(1, 7), 0);
        Checks.due("R of 0", x.node(1, 8), 0);
        Checks.due("leaked at 0", x.heat(1, 2), 0);
    }

    private static void heatOfNothing() {
        HeatBranches x = new HeatBranches();
        x.addNode(0, 500, 50, 0, 1200);
        for (int what = 0; what <= 5; what++) {
            Checks.due("heat " + what + " without a flow", x.heat(1, what), 0);
        }
        Checks.due("return at node 0", x.value(13), 0);
        Checks.due("need", x.value(7), 0);
        Checks.due("unmet", x.value(8), 0);
    }

    private static void needOfAtLeastZero() {
        HeatBranches x = pipe(1, 0);
        x.setDraw(1, 5, 1200);
        Checks.due("all comes back", x.value(13), 4000);
        Checks.due("need", x.value(7), 0);
        x.setDraw(1, 5, 799);
        Checks.due("all but 5 come back", x.value(7), 5);
        x.setDraw(1, 5, 1200);
        x.setLeak(1, 1);
        Checks.due("what leaks does not come back", x.value(7), 800);
    }

    /** The return at node 0 is that of its children alone, and nothing is lost on the way back. */
    private static void returnOfNodeZero() {
        HeatBranches x = pipe(500, 1);
        x.addNode(1, 500, 1, 1, 100);
        x.addNode(0, 500, 50, 1, 1200);
        Checks.due("return of the lower node", x.heat(2, 3), 100);
        Checks.due("return of the upper node", x.heat(1, 3), 100);
        Checks.due("return of the other pipe", x.heat(3, 3), 80);
        Checks.due("return at node 0", x.value(13), 180);
        x.setDraw(1, 1, 200);
        Checks.due("return with a second draw", x.value(13), 380);
    }

    /** Node 0 has no pipe that loses, whatever flows out of it. */
    private static void sumsWithoutNodeZero() {
        HeatBranches x = pipe(1, 0);
        x.setDraw(1, 5, 0);
        x.setLeak(1, 5);
        Checks.due("a tight pipe loses nothing", x.sum(1), 0);
        Checks.due("all is delivered", x.sum(0), 4000);
        Checks.due("or leaks", x.sum(2), 4000);
        x.addNode(0, 500, 50, 1, 0);
        Checks.due("the loose pipe alone", x.sum(1), 720);
        x.setDraw(1, 0, 0);
        x.setLeak(1, 0);
        Checks.due("the first node has no flow", x.sum(1), 720);
        Checks.due("delivered at the ground", x.sum(0), 80);
    }

    /** Delivered heats of 1, 2, 999 and 1000; and halves that are divided for themselves. */
    private static void billDivisions() {
        HeatBranches x = pipe(1, 0);
        x.setTemperatures(1200, 80);
        x.setTariff(1, 0, 0);
        x.setDraw(1, 1, 201);
        Checks.due("999 * 1 / 1000", x.heat(1, 5), 0);
        x.setDraw(1, 1, 200);
        Checks.due("1000 * 1 / 1000", x.heat(1, 5), 1);
        x.setTariff(999, 0, 0);
        x.setDraw(1, 1, 1199);
        Checks.due("1 * 999 / 1000", x.heat(1, 5), 0);
        x.setDraw(1, 1, 1198);
        Checks.due("2 * 999 / 1000", x.heat(1, 5), 1);
        x.setTariff(1, 100, 1);
        x.setDraw(1, 1, 600);
        Checks.due("600 / 1000 + 500 / 1000", x.heat(1, 5), 0);
    }

    private static void billAtTheMark() {
        HeatBranches x = pipe(1, 0);
        x.setDraw(1, 500, 700);
        x.setTariff(0, 700, 99);
        Checks.due("R at the mark", x.heat(1, 5), 0);
        x.setTariff(0, 699, 99);
        Checks.due("R one above the mark", x.heat(1, 5), 49);
        x.setTariff(0, 701, 99);
        Checks.due("R one below the mark", x.heat(1, 5), -49);
        x.setTariff(0, 1200, 99);
        Checks.due("the highest mark", x.heat(1, 5), -24750);
        x.setTariff(0, 0, 99);
        Checks.due("the lowest mark", x.heat(1, 5), 34650);
        x.setDraw(1, 0, 700);
        x.setTariff(999, 0, 99);
        Checks.due("no draw, no bill", x.heat(1, 5), 0);
    }

    private static void largestHeats() {
        HeatBranches x = new HeatBranches();
        x.setTemperatures(1200, -200);
        for (int n = 1; n < 16; n++) {
            x.addNode(0, 500, 0, 500, n == 15 ? 0 : 1200);
            x.setLeak(n, 100);
        }
        x.setTariff(999, 0, 99);
        Checks.due("delivered", x.heat(15, 0), 600000);
        Checks.due("its bill", x.heat(15, 5), 599400);
        Checks.due("the highest bonus", x.heat(1, 5), 59400);
        Checks.due("coming in", x.heat(1, 4), 720000);
        Checks.due("leaked", x.sum(2), 15 * 120000);
        Checks.due("need", x.value(7), 9000 * 1200 - 14 * 600000);
        for (int n = 1; n < 16; n++) {
            x.setDraw(n, 500, 0);
        }
        Checks.due("the highest need without a loss", x.value(7), 10800000);
        Checks.due("delivered by all", x.sum(0), 9000000);
    }

    private static void arguments() {
        Edges.range("a node with heat", INDEX, 1, 3, Samples::busy, (x, v) -> x.heat(v, 0));
        Edges.range("a node with heat in full", INDEX, 1, 15, Samples::full, (x, v) -> x.heat(v, 5));
        Edges.refused("the heat of node 0", INDEX, Samples::busy, x -> x.heat(0, 3));
        Edges.range("what heat", ARGUMENT, 0, 5, Samples::busy, (x, v) -> x.heat(1, v));
        Edges.refused("no node, no what", INDEX, Samples::busy, x -> x.heat(0, 6));
        Edges.refused("no node, no what", INDEX, Samples::busy, x -> x.heat(4, -1));
        Edges.range("what value", ARGUMENT, 0, 14, Samples::busy, (x, v) -> x.value(v));
        Edges.range("what value of nothing", ARGUMENT, 0, 14, HeatBranches::new, (x, v) -> x.value(v));
        Edges.range("what sum", ARGUMENT, 0, 2, Samples::busy, (x, v) -> x.sum(v));
        Edges.range("what sum of nothing", ARGUMENT, 0, 2, HeatBranches::new, (x, v) -> x.sum(v));
        Edges.notUndoable("heat", Samples::busy, x -> x.heat(1, 0));
        Edges.notUndoable("value", Samples::busy, x -> x.value(7));
        Edges.notUndoable("sum", Samples::busy, x -> x.sum(0));
    }
}
