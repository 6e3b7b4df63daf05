/** Promises 10 to 14: boilers, the tariff and hours. */
public final class BoilerTest {
    private static final int[] EDGES = {Integer.MIN_VALUE, -1, Integer.MAX_VALUE};

    public static void main(String[] args) {
        addBoiler();
        setCost();
        loads();
        leastLoads();
        divisions();
        setTariff();
        pass();
        Checks.finish("BoilerTest");
    }

    private static void boilerIs(HeatBranches x, int boiler, int... want) {
        for (int i = 0; i < want.length; i++) {
            Checks.due("boiler(" + boiler + ", " + i + ")", x.boiler(boiler, i), want[i]);
        }
    }

    private static void addBoiler() {
        HeatBranches x = new HeatBranches();
        Checks.due("boiler 0", x.addBoiler(1, 0, 0), 0);
        Checks.due("boiler 1", x.addBoiler(9999999, 9999999, 99), 1);
        Checks.due("boilers", x.value(6), 2);
        boilerIs(x, 0, 1, 0, 0, 0, 0);
        boilerIs(x, 1, 9999999, 9999999, 99, 0, 1);
        Checks.refused(x, Checks.ARGUMENT, "capacity 0", () -> x.addBoiler(0, 0, 0));
        Checks.refused(x, Checks.ARGUMENT, "capacity 10000000", () -> x.addBoiler(10000000, 0, 0));
        Checks.refused(x, Checks.ARGUMENT, "least above the capacity", () -> x.addBoiler(5, 6, 0));
        Checks.refused(x, Checks.ARGUMENT, "cost 100", () -> x.addBoiler(5, 0, 100));
        for (int edge : EDGES) {
            Checks.refused(x, Checks.ARGUMENT, "capacity " + edge, () -> x.addBoiler(edge, 0, 0));
            Checks.refused(x, Checks.ARGUMENT, "least " + edge, () -> x.addBoiler(5, edge, 0));
            Checks.refused(x, Checks.ARGUMENT, "cost " + edge, () -> x.addBoiler(5, 0, edge));
        }
        Checks.due("addBoiler is undoable", x.undo(), 1);
        Checks.due("boilers after undo", x.value(6), 1);
        Checks.refused(x, Checks.INDEX, "boiler(1, 0)", () -> x.boiler(1, 0));
        x.addBoiler(2, 2, 2);
        x.addBoiler(3, 3, 3);
        Checks.due("boiler 3", x.addBoiler(4, 4, 4), 3);
        Checks.refused(x, Checks.STATE, "a 5th boiler", () -> x.addBoiler(1, 0, 0));
        Checks.refused(x, Checks.ARGUMENT, "cost ahead of the room", () -> x.addBoiler(1, 0, 100));
    }

    private static void setCost() {
        HeatBranches x = Samples.heatedStreet();
        Checks.due("setCost", x.setCost(0, 99), 30);
        Checks.due("place", x.boiler(0, 4), 2);
        Checks.due("setCost to 0", x.setCost(0, 0), 99);
        Checks.due("place", x.boiler(0, 4), 0);
        Checks.due("costs", x.value(9), 5000 * 20 / 1000 + 4000 * 30 / 1000);
        Checks.due("setCost is undoable", x.undo(), 3);
        Checks.due("cost after undo", x.boiler(0, 2), 99);
        Checks.refused(x, Checks.INDEX, "setCost(3, 0)", () -> x.setCost(3, 0));
        Checks.refused(x, Checks.INDEX, "boiler ahead of cost", () -> x.setCost(3, 100));
        Checks.refused(x, Checks.ARGUMENT, "cost 100", () -> x.setCost(2, 100));
        for (int edge : EDGES) {
            Checks.refused(x, Checks.INDEX, "setCost of " + edge, () -> x.setCost(edge, 0));
            Checks.refused(x, Checks.ARGUMENT, "cost " + edge, () -> x.setCost(0, edge));
        }
    }

    private static void loads() {
        HeatBranches x = Samples.heatedStreet();
        boilerIs(x, 0, 10000, 0, 30, 10000, 1);
        boilerIs(x, 1, 5000, 3000, 20, 5000, 0);
        boilerIs(x, 2, 9000, 4000, 30, 4000, 2);
        Checks.due("need", x.value(7), 17000);
        Checks.due("unmet", x.value(8), 0);
        Checks.due("costs", x.value(9), 520);
        Checks.refused(x, Checks.INDEX, "boiler(3, 0)", () -> x.boiler(3, 0));
        Checks.refused(x, Checks.INDEX, "boiler ahead of what", () -> x.boiler(3, 5));
        Checks.refused(x, Checks.ARGUMENT, "boiler(0, 5)", () -> x.boiler(0, 5));
        for (int edge : EDGES) {
            Checks.refused(x, Checks.INDEX, "boiler(" + edge + ", 0)", () -> x.boiler(edge, 0));
            Checks.refused(x, Checks.ARGUMENT, "boiler(0, " + edge + ")", () -> x.boiler(0, edge));
        }
    }

    private static void leastLoads() {
        HeatBranches x = Samples.street();
        x.addBoiler(17000, 0, 5);
        x.addBoiler(500, 500, 6);
        Checks.due("all at boiler 0", x.boiler(0, 3), 17000);
        Checks.due("nothing left, no least load", x.boiler(1, 3), 0);
        x.setDraw(2, 0, 300);
        x.setLeak(2, 0);
        x.setDraw(1, 1, 0);
        Checks.due("a small need", x.value(7), 800);
        x.setCost(1, 0);
        Checks.due("boiler 1 is full", x.boiler(1, 3), 500);
        Checks.due("boiler 0 has the rest", x.boiler(0, 3), 300);
        x.addBoiler(2000, 801, 0);
        x.setCost(1, 1);
        Checks.due("below the least load", x.boiler(2, 3), 801);
        Checks.due("then nothing is left", x.boiler(1, 3), 0);
        Checks.due("nor here", x.boiler(0, 3), 0);
        Checks.due("nothing is unmet", x.value(8), 0);
        x.setDraw(1, 0, 0);
        Checks.due("no need", x.value(7), 0);
        Checks.due("no load", x.boiler(2, 3), 0);
        oneIsLeft();
    }

    private static void oneIsLeft() {
        HeatBranches x = new HeatBranches();
        x.addNode(0, 1, 0, 1, 0);
        x.addBoiler(799, 799, 0);
        x.addBoiler(9, 2, 0);
        Checks.due("its least load is its capacity", x.boiler(0, 3), 799);
        Checks.due("one is left", x.boiler(1, 3), 2);
        x.setTemperatures(799, 80);
        Checks.due("none is left", x.boiler(1, 3), 0);
    }

    private static void divisions() {
        HeatBranches x = new HeatBranches();
        x.addNode(0, 1, 0, 10, 0);
        x.addBoiler(1999, 0, 1);
        x.addBoiler(1999, 0, 1);
        x.addBoiler(1, 0, 99);
        Checks.due("need", x.value(7), 8000);
        Checks.due("each boiler's costs are divided for themselves", x.value(9), 2);
        Checks.due("unmet", x.value(8), 8000 - 1999 - 1999 - 1);
    }

    private static void setTariff() {
        HeatBranches x = Samples.street();
        Checks.due("setTariff", x.setTariff(999, 1200, 99), 50);
        Checks.due("price", x.value(2), 999);
        Checks.due("mark", x.value(3), 1200);
        Checks.due("bonus", x.value(4), 99);
        Checks.due("setTariff to 0", x.setTariff(0, 0, 0), 999);
        Checks.due("a bill of nothing", x.heat(1, 5), 0);
        Checks.due("setTariff is undoable", x.undo(), 3);
        Checks.due("bonus after undo", x.value(4), 99);
        Checks.refused(x, Checks.ARGUMENT, "price 1000", () -> x.setTariff(1000, 0, 0));
        Checks.refused(x, Checks.ARGUMENT, "mark 1201", () -> x.setTariff(0, 1201, 0));
        Checks.refused(x, Checks.ARGUMENT, "bonus 100", () -> x.setTariff(0, 0, 100));
        for (int edge : EDGES) {
            Checks.refused(x, Checks.ARGUMENT, "price " + edge, () -> x.setTariff(edge, 0, 0));
            Checks.refused(x, Checks.ARGUMENT, "mark " + edge, () -> x.setTariff(0, edge, 0));
            Checks.refused(x, Checks.ARGUMENT, "bonus " + edge, () -> x.setTariff(0, 0, edge));
        }
    }

    private static void pass() {
        HeatBranches x = Samples.heatedStreet();
        Checks.due("pass(1)", x.pass(1), 1);
        Checks.due("pass(2)", x.pass(2), 3);
        Checks.due("account 1", x.node(1, 11), 1140);
        Checks.due("account 2", x.node(2, 11), 411);
        Checks.due("costs so far", x.value(10), 1560);
        Checks.due("pass is undoable", x.undo(), 3);
        Checks.due("hours after undo", x.value(11), 1);
        Checks.due("accounts after undo", x.value(12), 517);
        Checks.due("costs after undo", x.value(10), 520);
        x.setTariff(0, 1200, 99);
        Checks.due("pass(100)", x.pass(100), 101);
        Checks.due("an account below 0", x.node(2, 11), 137 - 100 * 891);
        Checks.refused(x, Checks.STATE, "pass beyond 200", () -> x.pass(100));
        Checks.due("pass to 200", x.pass(99), 200);
        Checks.refused(x, Checks.STATE, "pass beyond 200", () -> x.pass(1));
        Checks.refused(x, Checks.ARGUMENT, "hours ahead of the 200", () -> x.pass(101));
        Checks.refused(x, Checks.ARGUMENT, "pass(0)", () -> x.pass(0));
        for (int edge : EDGES) {
            Checks.refused(x, Checks.ARGUMENT, "pass(" + edge + ")", () -> x.pass(edge));
        }
    }
}
