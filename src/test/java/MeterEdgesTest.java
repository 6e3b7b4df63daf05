/** Boundary cases of promises 15 to 21, and of 'Meters'. */
public final class MeterEdgesTest {
    private static final Class<?> INDEX = Checks.INDEX;

    public static void main(String[] args) {
        nodeNumbers();
        noneAndAllMeters();
        houseHasAMeter();
        withoutAMeter();
        smallestAndLargestRegion();
        regionsInRegions();
        suspectFromOneOn();
        measuredNotOnlyLeaks();
        placeInARegionOfOneOrTwo();
        placeOfEqualOnes();
        placeCountsTheRegionOnly();
        nothingToFind();
        mostToFind();
        twoRegionsToSearch();
        undoables();
        Checks.finish("MeterEdgesTest");
    }

    /** Pipes with a draw of 1 and no leak, each below the node that is given for it. */
    private static HeatBranches below(int... parents) {
        HeatBranches x = new HeatBranches();
        for (int parent : parents) {
            x.addNode(parent, 1, 0, 1, 0);
        }
        return x;
    }

    private static HeatBranches chain() {
        return below(0, 1, 2, 3, 4, 5, 6, 7, 8, 9, 10, 11, 12, 13, 14);
    }

    private static HeatBranches star() {
        return below(0, 0, 0, 0, 0, 0, 0, 0, 0, 0, 0, 0, 0, 0, 0);
    }

    private static void nodeNumbers() {
        Edges.range("a node for a meter", INDEX, 1, 3, Samples::busy, (x, v) -> x.setMeter(v, true));
        Edges.range("a node without a meter", INDEX, 1, 15, Samples::full, (x, v) -> x.setMeter(v, false));
        Edges.refused("the meter of node 0", INDEX, Samples::busy, x -> x.setMeter(0, false));
        Edges.refused("a meter for node 0", INDEX, Samples::busy, x -> x.setMeter(0, true));
        Edges.range("a balance", INDEX, 0, 3, Samples::busy, (x, v) -> x.balance(v));
        Edges.range("a balance in full", INDEX, 0, 15, Samples::full, (x, v) -> x.balance(v));
        Edges.range("a balance of nothing", INDEX, 0, 0, HeatBranches::new, (x, v) -> x.balance(v));
        Edges.range("a region", INDEX, 0, 3, Samples::busy, (x, v) -> x.region(v));
        Edges.range("a region in full", INDEX, 0, 15, Samples::full, (x, v) -> x.region(v));
        Edges.range("a region of nothing", INDEX, 0, 0, HeatBranches::new, (x, v) -> x.region(v));
        Edges.range("a node in a region", INDEX, 1, 3, Samples::busy, (x, v) -> x.meterOf(v));
        Edges.range("a node in a region in full", INDEX, 1, 15, Samples::full, (x, v) -> x.meterOf(v));
        Edges.refused("node 0 in a region", INDEX, Samples::busy, x -> x.meterOf(0));
        Edges.range("a next place", INDEX, 0, 3, Samples::busy, (x, v) -> x.nextMeter(v));
        Edges.range("a next place in full", INDEX, 0, 15, Samples::full, (x, v) -> x.nextMeter(v));
        Edges.range("a next place in nothing", INDEX, 0, 0, HeatBranches::new, (x, v) -> x.nextMeter(v));
    }

    private static void noneAndAllMeters() {
        HeatBranches x = chain();
        Checks.due("meters at first", x.value(14), 0);
        Checks.due("one that was not there is taken away", x.setMeter(15, false), 0);
        for (int n = 15; n > 0; n--) {
            Checks.due("meters", x.setMeter(n, true), 16 - n);
        }
        Checks.due("meters in full", x.value(14), 15);
        Checks.due("one that was there already", x.setMeter(1, true), 15);
        for (int n = 1; n < 16; n++) {
            Checks.due("meters left", x.setMeter(n, false), 15 - n);
        }
    }

    private static void houseHasAMeter() {
        HeatBranches x = chain();
        for (int n = 1; n < 16; n++) {
            Checks.due("meterOf without meters", x.meterOf(n), 0);
        }
        Checks.due("its region", x.region(0), 15);
        Checks.due("its balance", x.balance(0), 0);
        for (int n = 1; n < 16; n++) {
            x.setMeter(n, true);
            Checks.due("a node with a meter is in its own region", x.meterOf(n), n);
        }
    }

    private static void withoutAMeter() {
        HeatBranches x = below(0, 1);
        x.setLeak(2, 9);
        x.setLeak(1, 9);
        for (int n = 1; n <= 2; n++) {
            Checks.due("balance without a meter", x.balance(n), -1);
            Checks.due("region without a meter", x.region(n), -1);
            Checks.due("next place without a meter", x.nextMeter(n), -1);
        }
        x.setMeter(1, true);
        x.setMeter(1, false);
        Checks.due("balance with the meter taken away", x.balance(1), -1);
    }

    private static void smallestAndLargestRegion() {
        HeatBranches x = chain();
        x.setMeter(1, true);
        Checks.due("no node is left for node 0", x.region(0), 0);
        Checks.due("balance of no node", x.balance(0), 0);
        Checks.due("all nodes but node 0", x.region(1), 15);
        x.setMeter(15, true);
        Checks.due("the last node alone", x.region(15), 1);
        Checks.due("all others", x.region(1), 14);
    }

    /** 1 - 2 - 3 - 4 with meters at 2 and 3: the meter at 3 is below another one for node 0. */
    private static void regionsInRegions() {
        HeatBranches x = below(0, 1, 2, 3, 1);
        for (int n = 1; n <= 5; n++) {
            x.setLeak(n, 1 << n);
        }
        x.setMeter(2, true);
        x.setMeter(3, true);
        Checks.due("balance of node 0", x.balance(0), 2 + 32);
        Checks.due("balance of node 2", x.balance(2), 4);
        Checks.due("balance of node 3", x.balance(3), 8 + 16);
        Checks.due("region of node 0", x.region(0), 2);
        Checks.due("region of node 2", x.region(2), 1);
        Checks.due("region of node 3", x.region(3), 2);
        Checks.due("meterOf(1)", x.meterOf(1), 0);
        Checks.due("meterOf(4)", x.meterOf(4), 3);
        Checks.due("meterOf(5)", x.meterOf(5), 0);
    }

    private static void suspectFromOneOn() {
        HeatBranches x = below(0, 1);
        x.setDraw(2, 500, 0);
        Checks.due("a balance of 0", x.balance(0), 0);
        Checks.due("is not suspect", x.suspects(), 0);
        Checks.due("and has no next place", x.nextMeter(0), -1);
        x.setLeak(2, 1);
        Checks.due("a balance of 1", x.balance(0), 1);
        Checks.due("is suspect", x.suspects(), 1);
        Checks.due("and has a next place", x.nextMeter(0), 2);
        HeatBranches all = chain();
        for (int n = 1; n < 16; n++) {
            all.setMeter(n, true);
            all.setLeak(n, 100);
        }
        Checks.due("all but the empty one are suspect", all.suspects(), 15);
        all.setMeter(1, false);
        Checks.due("node 0 with node 1, too", all.suspects(), 15);
        Checks.due("the highest balance of one", all.balance(15), 100);
    }

    /** What a meter measures minus draws and lower meters is the sum of the leaks, up to 15 * 100. */
    private static void measuredNotOnlyLeaks() {
        HeatBranches x = chain();
        for (int n = 1; n < 16; n++) {
            x.setDraw(n, 500, 0);
            x.setLeak(n, 100);
        }
        Checks.due("the highest balance", x.balance(0), 1500);
        x.setMeter(8, true);
        Checks.due("balance above the meter", x.balance(0), x.node(0, 6) - 7 * 500 - x.node(8, 6));
        Checks.due("balance below the meter", x.balance(8), x.node(8, 6) - 8 * 500);
    }

    private static void placeInARegionOfOneOrTwo() {
        HeatBranches x = below(0);
        x.setLeak(1, 1);
        Checks.due("one node without a meter", x.nextMeter(0), -1);
        x.setMeter(1, true);
        Checks.due("one node with a meter", x.nextMeter(1), -1);
        x.addNode(1, 1, 0, 1, 0);
        Checks.due("two, the other one has no meter", x.nextMeter(1), 2);
        x.setMeter(2, true);
        Checks.due("all have meters", x.nextMeter(1), -1);
        x.setMeter(1, false);
        x.setMeter(2, false);
        Checks.due("two, none has a meter", x.nextMeter(0), 2);
    }

    private static void placeOfEqualOnes() {
        HeatBranches chain = below(0, 1, 2);
        chain.setLeak(3, 1);
        Checks.due("3, 2, 1 of 3", chain.nextMeter(0), 2);
        HeatBranches small = below(0, 0, 2);
        small.setLeak(3, 1);
        Checks.due("1, 2, 1 of 3: just as far from the half", small.nextMeter(0), 1);
        HeatBranches half = below(0, 0, 2, 0);
        half.setLeak(1, 1);
        Checks.due("1, 2, 1, 1 of 4", half.nextMeter(0), 2);
        HeatBranches whole = below(0, 1);
        whole.setLeak(2, 1);
        Checks.due("2, 1 of 2", whole.nextMeter(0), 2);
        HeatBranches star = star();
        star.setLeak(15, 1);
        Checks.due("1 each of 15", star.nextMeter(0), 1);
        star.setMeter(1, true);
        Checks.due("1 each of 14", star.nextMeter(0), 2);
    }

    /** The meter at 3 takes its node out of the branches of 1 and 2. */
    private static void placeCountsTheRegionOnly() {
        HeatBranches x = below(0, 1, 2, 1, 4);
        x.setLeak(5, 1);
        Checks.due("5, 2, 1, 2, 1 of 5", x.nextMeter(0), 2);
        x.setMeter(3, true);
        Checks.due("region", x.region(0), 4);
        Checks.due("4, 1, -, 2, 1 of 4", x.nextMeter(0), 4);
    }

    private static void nothingToFind() {
        HeatBranches none = chain();
        Checks.due("no leaks", none.metersToFind(), 0);
        HeatBranches one = below(0);
        one.setLeak(1, 100);
        Checks.due("one node", one.metersToFind(), 0);
        HeatBranches all = chain();
        for (int n = 1; n < 16; n++) {
            all.setLeak(n, 1);
            all.setMeter(n, true);
        }
        Checks.due("meters everywhere", all.metersToFind(), 0);
        all.setMeter(15, false);
        Checks.due("one is missing", all.metersToFind(), 1);
    }

    private static void mostToFind() {
        HeatBranches x = star();
        x.setLeak(15, 1);
        Checks.due("the last of the star", x.metersToFind(), 14);
        x.setLeak(1, 1);
        Checks.due("and the first of the star", x.metersToFind(), 14);
        x.setLeak(15, 0);
        Checks.due("only the first of the star", x.metersToFind(), 1);
        HeatBranches chain = chain();
        for (int n = 1; n < 16; n++) {
            chain.setLeak(n, 1);
        }
        Checks.due("all of a chain", chain.metersToFind(), 14);
        Checks.due("none was set", chain.value(14), 0);
    }

    /** 1 - 2 and 3 - 4 with a meter at 3, leaks at 2 and 4: the search goes through both regions. */
    private static void twoRegionsToSearch() {
        HeatBranches x = below(0, 1, 0, 3);
        x.setLeak(2, 1);
        x.setLeak(4, 1);
        x.setMeter(3, true);
        Checks.due("place of node 0", x.nextMeter(0), 2);
        Checks.due("place of node 3", x.nextMeter(3), 4);
        Checks.due("both are set", x.metersToFind(), 2);
        x.setMeter(2, true);
        Checks.due("node 0 has no place then", x.nextMeter(0), -1);
        Checks.due("node 3 is left", x.metersToFind(), 1);
    }

    private static void undoables() {
        Edges.undoable("setMeter", Samples::busy, x -> x.setMeter(1, true));
        Edges.undoable("setMeter that takes away", Samples::busy, x -> x.setMeter(2, false));
        Edges.undoable("setMeter that changes nothing", Samples::busy, x -> x.setMeter(2, true));
        Edges.undoable("setMeter of none that takes none", Samples::busy, x -> x.setMeter(3, false));
        Edges.notUndoable("balance", Samples::busy, x -> x.balance(0));
        Edges.notUndoable("region", Samples::busy, x -> x.region(0));
        Edges.notUndoable("meterOf", Samples::busy, x -> x.meterOf(1));
        Edges.notUndoable("nextMeter", Samples::busy, x -> x.nextMeter(0));
        Edges.notUndoable("suspects", Samples::busy, HeatBranches::suspects);
        Edges.notUndoable("metersToFind", Samples::busy, HeatBranches::metersToFind);
    }
}
