/** Boundary cases of promises 10 to 14, and of 'Boilers' and 'Tariff'. */
public final class BoilerEdgesTest {
    private static final Class<?> INDEX = Checks.INDEX;
    private static final Class<?> ARGUMENT = Checks.ARGUMENT;
    private static final Class<?> STATE = Checks.STATE;

    public static void main(String[] args) {
        fourBoilers();
        addBoilerArguments();
        setCost();
        boilerFacts();
        places();
        capacityAtTheNeed();
        leastLoadAtTheNeed();
        leastLoadOfWhatIsLeft();
        noNeed();
        unmet();
        costsDivided();
        setTariff();
        hours();
        hoursFirstListed();
        hoursAdd();
        highestAccounts();
        undoables();
        Checks.finish("BoilerEdgesTest");
    }

    /** A need of 800: a draw of 1 at a tight pipe, of which nothing returns. */
    private static HeatBranches needing800() {
        HeatBranches x = new HeatBranches();
        x.addNode(0, 1, 0, 1, 0);
        return x;
    }

    private static void loadsAre(String what, HeatBranches x, int unmet, int... want) {
        for (int b = 0; b < want.length; b++) {
            Checks.due(what + ": load " + b, x.boiler(b, 3), want[b]);
        }
        Checks.due(what + ": unmet", x.value(8), unmet);
    }

    private static void fourBoilers() {
        HeatBranches x = new HeatBranches();
        for (int b = 0; b < 4; b++) {
            Checks.due("number of the boiler", x.addBoiler(1, 0, 0), b);
        }
        Checks.due("boilers", x.value(6), 4);
        Edges.refused("a 5th boiler", STATE, Samples::full, y -> y.addBoiler(1, 0, 0));
        Edges.refused("a 5th boiler", STATE, Samples::full, y -> y.addBoiler(9999999, 9999999, 99));
        Edges.refused("no capacity, no room", ARGUMENT, Samples::full, y -> y.addBoiler(0, 0, 0));
        Edges.refused("no least load, no room", ARGUMENT, Samples::full, y -> y.addBoiler(1, 2, 0));
        Edges.refused("no cost, no room", ARGUMENT, Samples::full, y -> y.addBoiler(1, 0, 100));
        x.undo();
        Checks.due("a 4th boiler once more", x.addBoiler(1, 0, 0), 3);
    }

    private static void addBoilerArguments() {
        Edges.keptRange("a capacity", 1, 9999999, Samples::busy, (x, v) -> x.addBoiler(v, 0, 0), x -> x.boiler(3, 0));
        Edges.keptRange("a least load", 0, 7, Samples::busy, (x, v) -> x.addBoiler(7, v, 0), x -> x.boiler(3, 1));
        Edges.keptRange("a least load of 1", 0, 1, Samples::busy, (x, v) -> x.addBoiler(1, v, 0), x -> x.boiler(3, 1));
        Edges.keptRange("the highest least load", 0, 9999999, Samples::busy, (x, v) -> x.addBoiler(9999999, v, 0),
            x -> x.boiler(3, 1));
        Edges.keptRange("a cost", 0, 99, Samples::busy, (x, v) -> x.addBoiler(7, 0, v), x -> x.boiler(3, 2));
        Edges.refused("least loads below no capacity", ARGUMENT, Samples::busy, x -> x.addBoiler(10000000, 0, 0));
        Edges.refused("both below 0", ARGUMENT, Samples::busy, x -> x.addBoiler(-1, -1, 0));
    }

    private static void setCost() {
        Edges.range("a boiler to price", INDEX, 0, 2, Samples::busy, (x, v) -> x.setCost(v, 1));
        Edges.range("a boiler to price in full", INDEX, 0, 3, Samples::full, (x, v) -> x.setCost(v, 1));
        Edges.keptRange("a cost", 0, 99, Samples::busy, (x, v) -> x.setCost(2, v), x -> x.boiler(2, 2));
        Edges.refused("no boiler, no cost", INDEX, Samples::busy, x -> x.setCost(3, 100));
        Edges.refused("no boilers, no cost", INDEX, HeatBranches::new, x -> x.setCost(0, -1));
    }

    private static void boilerFacts() {
        Edges.range("a boiler", INDEX, 0, 2, Samples::busy, (x, v) -> x.boiler(v, 0));
        Edges.range("a boiler in full", INDEX, 0, 3, Samples::full, (x, v) -> x.boiler(v, 4));
        Edges.range("what of a boiler", ARGUMENT, 0, 4, Samples::busy, (x, v) -> x.boiler(2, v));
        Edges.refused("no boiler, no what", INDEX, Samples::busy, x -> x.boiler(3, 5));
        Edges.refused("no boiler, no what", INDEX, Samples::busy, x -> x.boiler(-1, -1));
    }

    private static void placesAre(String what, HeatBranches x, int... want) {
        for (int b = 0; b < want.length; b++) {
            Checks.due(what + ": place " + b, x.boiler(b, 4), want[b]);
        }
    }

    private static void places() {
        HeatBranches x = new HeatBranches();
        x.addBoiler(1, 0, 50);
        placesAre("one boiler", x, 0);
        x.addBoiler(1, 0, 50);
        x.addBoiler(1, 0, 50);
        x.addBoiler(1, 0, 50);
        placesAre("equal costs", x, 0, 1, 2, 3);
        x.setCost(0, 51);
        placesAre("the first one dearer", x, 3, 0, 1, 2);
        x.setCost(3, 49);
        placesAre("the last one cheaper", x, 3, 1, 2, 0);
        x.setCost(1, 99);
        x.setCost(2, 0);
        placesAre("all different", x, 2, 3, 0, 1);
    }

    private static void capacityAtTheNeed() {
        HeatBranches x = needing800();
        x.addBoiler(800, 0, 0);
        x.addBoiler(5, 0, 1);
        loadsAre("just enough", x, 0, 800, 0);
        HeatBranches less = needing800();
        less.addBoiler(799, 0, 0);
        loadsAre("one too little", less, 1, 799);
        less.addBoiler(5, 0, 1);
        loadsAre("the next one makes the rest", less, 0, 799, 1);
        HeatBranches more = needing800();
        more.addBoiler(801, 0, 0);
        more.addBoiler(5, 0, 1);
        loadsAre("more than enough", more, 0, 800, 0);
    }

    private static void leastLoadAtTheNeed() {
        int[] leasts = {799, 800, 801};
        int[] loads = {800, 800, 801};
        for (int i = 0; i < leasts.length; i++) {
            HeatBranches x = needing800();
            x.addBoiler(2000, leasts[i], 0);
            x.addBoiler(2000, 2000, 1);
            loadsAre("least load " + leasts[i], x, 0, loads[i], 0);
        }
        HeatBranches full = needing800();
        full.addBoiler(799, 799, 0);
        loadsAre("least load at the capacity", full, 1, 799);
        HeatBranches above = needing800();
        above.addBoiler(9999999, 9999999, 99);
        loadsAre("the highest least load", above, 0, 9999999);
        Checks.due("the highest costs", above.value(9), 989999);
    }

    /** The first boiler leaves 2: least loads of 1, 2 and 3. */
    private static void leastLoadOfWhatIsLeft() {
        int[] loads = {2, 2, 3};
        for (int least = 1; least <= 3; least++) {
            HeatBranches x = needing800();
            x.addBoiler(798, 798, 0);
            x.addBoiler(10, least, 1);
            x.addBoiler(10, 1, 2);
            loadsAre("2 left, least load " + least, x, 0, 798, loads[least - 1], 0);
        }
        HeatBranches x = needing800();
        x.addBoiler(798, 0, 0);
        x.addBoiler(1, 1, 1);
        x.addBoiler(9, 2, 2);
        x.addBoiler(9, 1, 3);
        loadsAre("1 left for the third", x, 0, 798, 1, 2, 0);
    }

    private static void noNeed() {
        HeatBranches x = new HeatBranches();
        x.addBoiler(10, 0, 99);
        x.addBoiler(10, 10, 99);
        loadsAre("no pipes", x, 0, 0, 0);
        x.addNode(0, 1, 0, 500, 800);
        loadsAre("all comes back", x, 0, 0, 0);
        Checks.due("no costs", x.value(9), 0);
        x.setDraw(1, 1, 799);
        loadsAre("a need of 1", x, 0, 1, 0);
        x.setCost(1, 98);
        loadsAre("a need of 1, least load 10", x, 0, 0, 10);
    }

    private static void unmet() {
        HeatBranches x = needing800();
        Checks.due("unmet without boilers", x.value(8), 800);
        Checks.due("costs without boilers", x.value(9), 0);
        for (int b = 0; b < 4; b++) {
            x.addBoiler(200 - (b == 3 ? 1 : 0), 0, b);
        }
        loadsAre("one too little of four", x, 1, 200, 200, 200, 199);
        HeatBranches full = needing800();
        for (int b = 0; b < 4; b++) {
            full.addBoiler(200, 200, 99);
        }
        loadsAre("just enough of four", full, 0, 200, 200, 200, 200);
    }

    /** Loads of 999, 999 and 1000, of which only the last one costs. */
    private static void costsDivided() {
        HeatBranches x = new HeatBranches();
        x.addNode(0, 1, 0, 3, 0);
        x.setTemperatures(1000, 80);
        x.addBoiler(999, 0, 1);
        x.addBoiler(999, 0, 1);
        Checks.due("999 / 1000 twice", x.value(9), 0);
        x.addBoiler(1000, 0, 1);
        Checks.due("and 1000 / 1000", x.value(9), 1);
        x.setCost(0, 0);
        x.setCost(1, 0);
        Checks.due("a cost of 0", x.value(9), 1);
        x.setCost(2, 99);
        Checks.due("the highest cost", x.value(9), 99);
    }

    private static void setTariff() {
        Edges.keptRange("a price", 0, 999, Samples::busy, (x, v) -> x.setTariff(v, 1, 1), x -> x.value(2));
        Edges.keptRange("a mark", 0, 1200, Samples::busy, (x, v) -> x.setTariff(1, v, 1), x -> x.value(3));
        Edges.keptRange("a bonus", 0, 99, Samples::busy, (x, v) -> x.setTariff(1, 1, v), x -> x.value(4));
        Edges.refused("no price, no mark, no bonus", ARGUMENT, Samples::busy, x -> x.setTariff(-1, -1, -1));
    }

    private static HeatBranches passed(int hours) {
        HeatBranches x = Samples.heatedStreet();
        x.pass(Math.min(hours, 100));
        if (hours > 100) {
            x.pass(hours - 100);
        }
        x.undo();
        x.pass(hours > 100 ? hours - 100 : hours);
        return x;
    }

    private static void hours() {
        Edges.range("hours", ARGUMENT, 1, 100, Samples::busy, (x, v) -> x.pass(v));
        Checks.due("the first hour", Samples.heatedStreet().pass(1), 1);
        Checks.due("hours up to 200", passed(100).pass(100), 200);
        Checks.due("the 200th hour", passed(199).pass(1), 200);
        Edges.refused("hours up to 201", STATE, () -> passed(101), x -> x.pass(100));
        Edges.refused("2 hours behind 199", STATE, () -> passed(199), x -> x.pass(2));
        Edges.refused("the 201st hour", STATE, () -> passed(200), x -> x.pass(1));
        Edges.refused("100 hours behind 200", STATE, Samples::full, x -> x.pass(100));
        HeatBranches x = passed(200);
        x.undo();
        Checks.due("hours behind an undo", x.value(11), 100);
        Checks.due("room for 100 more", x.pass(100), 200);
        x.parse();
        Checks.due("hours behind parse", x.value(11), 200);
    }

    private static void hoursFirstListed() {
        for (int hours : new int[] {0, 101, -1, Integer.MAX_VALUE, Integer.MIN_VALUE, Integer.MAX_VALUE - 199}) {
            Edges.refused(hours + " hours behind 200", ARGUMENT, Samples::full, x -> x.pass(hours));
        }
    }

    /** Each hour adds what that hour is like; a bill below 0 takes away. */
    private static void hoursAdd() {
        HeatBranches x = needing800();
        x.addBoiler(1000, 0, 10);
        x.setTariff(0, 1200, 99);
        x.pass(1);
        Checks.due("account", x.node(1, 11), -118);
        Checks.due("costs", x.value(10), 8);
        x.setTariff(100, 0, 0);
        x.setCost(0, 0);
        x.pass(1);
        Checks.due("account of two hours", x.node(1, 11), -118 + 80);
        Checks.due("costs of two hours", x.value(10), 8);
        x.pass(100);
        Checks.due("account of 102 hours", x.node(1, 11), -118 + 101 * 80);
        Checks.due("account of the boiler house", x.node(0, 11), 0);
    }

    private static void highestAccounts() {
        HeatBranches x = new HeatBranches();
        x.setTemperatures(1200, 80);
        for (int n = 1; n < 16; n++) {
            x.addNode(0, 1, 0, 500, 0);
        }
        x.addBoiler(9000000 - 1, 0, 99);
        x.addBoiler(9999999, 9999999, 99);
        x.setTariff(999, 0, 0);
        x.pass(100);
        x.pass(100);
        Checks.due("the highest account", x.node(15, 11), 119880000);
        Checks.due("the highest sum of all accounts", x.value(12), 1798200000);
        Checks.due("the highest costs of an hour", x.value(9), 890999 + 989999);
        Checks.due("the highest costs so far", x.value(10), 200 * 1880998);
        x.undo();
        x.undo();
        x.setTariff(0, 1200, 99);
        x.pass(100);
        x.pass(100);
        Checks.due("the lowest account", x.node(1, 11), -11880000);
        Checks.due("the lowest sum of all accounts", x.value(12), -178200000);
    }

    private static void undoables() {
        Edges.undoable("addBoiler", Samples::busy, x -> x.addBoiler(1, 1, 1));
        Edges.undoable("setCost", Samples::busy, x -> x.setCost(1, 31));
        Edges.undoable("setTariff", Samples::busy, x -> x.setTariff(1, 1, 1));
        Edges.undoable("pass", Samples::busy, x -> x.pass(100));
        Edges.undoable("setCost that changes nothing", Samples::busy, x -> x.setCost(1, 20));
        Edges.undoable("setTariff that changes nothing", Samples::busy, x -> x.setTariff(60, 390, 9));
        Edges.notUndoable("boiler", Samples::busy, x -> x.boiler(0, 3));
    }
}
