import java.math.BigInteger;

/** Boundary cases of promise 1, of 'What it is' and of the hash: what is empty, the last call, the wrap-around. */
public final class ObjectEdgesTest {
    public static void main(String[] args) {
        nothingThereAtFirst();
        nothingToAskAtFirst();
        answersOfNothing();
        lastPromisedCall();
        objectsStandApart();
        divisionTowardZero();
        digestOfNothing();
        digestWrapsAround();
        Checks.finish("ObjectEdgesTest");
    }

    private static void nothingThereAtFirst() {
        HeatBranches x = new HeatBranches();
        Checks.due("NONE", HeatBranches.NONE, -1);
        Checks.due("supply at first", x.value(0), 800);
        Checks.due("ground at first", x.value(1), 80);
        Checks.due("price at first", x.value(2), 50);
        Checks.due("mark at first", x.value(3), 400);
        Checks.due("bonus at first", x.value(4), 10);
        Checks.due("nodes at first", x.value(5), 1);
        for (int what = 6; what <= 14; what++) {
            Checks.due("value " + what + " at first", x.value(what), 0);
        }
        Checks.due("text at first", x.clearText(), 0);
    }

    private static void nothingToAskAtFirst() {
        Edges.refused("undo of a new object", Checks.STATE, HeatBranches::new, HeatBranches::undo);
        Edges.refused("a node other than 0", Checks.INDEX, HeatBranches::new, x -> x.node(1, 0));
        Edges.refused("a heat", Checks.INDEX, HeatBranches::new, x -> x.heat(1, 0));
        Edges.refused("a draw", Checks.INDEX, HeatBranches::new, x -> x.setDraw(1, 0, 0));
        Edges.refused("a leak", Checks.INDEX, HeatBranches::new, x -> x.setLeak(1, 0));
        Edges.refused("a meter", Checks.INDEX, HeatBranches::new, x -> x.setMeter(1, true));
        Edges.refused("a meter of a node", Checks.INDEX, HeatBranches::new, x -> x.meterOf(1));
        Edges.refused("a supply for a node", Checks.INDEX, HeatBranches::new, x -> x.supplyFor(1, 0));
        Edges.refused("what a node saves", Checks.INDEX, HeatBranches::new, x -> x.saves(1));
        Edges.refused("a boiler", Checks.INDEX, HeatBranches::new, x -> x.boiler(0, 0));
        Edges.refused("a cost", Checks.INDEX, HeatBranches::new, x -> x.setCost(0, 0));
        Edges.refused("a pipe from node 1", Checks.INDEX, HeatBranches::new, x -> x.addNode(1, 1, 0, 0, 0));
    }

    private static void answersOfNothing() {
        HeatBranches x = new HeatBranches();
        for (int what = 0; what <= 2; what++) {
            Checks.due("sum " + what + " of nothing", x.sum(what), 0);
        }
        Checks.due("balance of nothing", x.balance(0), 0);
        Checks.due("region of nothing", x.region(0), 0);
        Checks.due("next place in nothing", x.nextMeter(0), -1);
        Checks.due("suspects of nothing", x.suspects(), 0);
        Checks.due("meters to find in nothing", x.metersToFind(), 0);
        Checks.due("cheapest supply of nothing", x.cheapestSupply(), 400);
        Checks.dueDouble("efficiency of nothing", x.efficiency(), 0.0);
        Checks.due("hours of nothing", x.pass(1), 1);
        Checks.due("costs of nothing", x.value(10), 0);
        Checks.due("a text of nothing", x.parse(), 1);
    }

    private static void lastPromisedCall() {
        HeatBranches x = new HeatBranches();
        for (int call = 1; call < 512; call++) {
            x.setTariff(call, call, 0);
        }
        Checks.due("call 512", x.setTariff(0, 0, 0), 511);
        HeatBranches y = new HeatBranches();
        for (int call = 1; call < 511; call++) {
            y.setTariff(call, call, 0);
        }
        Checks.due("call 511", y.undo(), 3);
        Checks.due("call 512", y.value(2), 509);
    }

    private static void objectsStandApart() {
        HeatBranches x = new HeatBranches();
        HeatBranches busy = Samples.full();
        Checks.due("a new object beside a busy one", x.digest(), new HeatBranches().digest());
        x.addNode(0, 500, 50, 500, 1200);
        x.append(1);
        Edges.alike("a busy object beside another one", busy, Samples.full());
    }

    /** -990 / 1000 and -1980 / 1000: toward 0, not down. */
    private static void divisionTowardZero() {
        HeatBranches x = new HeatBranches();
        x.addNode(0, 1, 0, 10, 400);
        x.setTariff(0, 401, 99);
        Checks.due("-0.99", x.heat(1, 5), 0);
        x.setTariff(0, 402, 99);
        Checks.due("-1.98", x.heat(1, 5), -1);
        x.setTariff(0, 399, 99);
        Checks.due("0.99", x.heat(1, 5), 0);
        x.setTariff(0, 398, 99);
        Checks.due("1.98", x.heat(1, 5), 1);
    }

    /** The values that the document lists, one by one, for an object of which nothing has been asked. */
    private static void digestOfNothing() {
        long[] text = {0};
        long[] values = {800, 80, 50, 400, 10, 1, 0, 0, 0, 0, 0, 0, 0, 0, 0};
        long[] sums = {0, 0, 0};
        long[] house = {-1, 0, 0, 0, 0, 0, 0, 800, -1, 0, 1, 0};
        long[] meters = {0, 0, -1};
        long[] end = {0, 0};
        BigInteger h = BigInteger.valueOf(3407);
        for (long[] row : new long[][] {text, values, sums, house, meters, end}) {
            h = folded(h, row);
        }
        Checks.due("digest of a new object", new HeatBranches().digest(), h.longValue());
    }

    private static BigInteger folded(BigInteger start, long... row) {
        BigInteger h = start;
        for (long v : row) {
            h = h.multiply(BigInteger.valueOf(31)).add(BigInteger.valueOf(v));
        }
        return h;
    }

    /** The hash without an end has some 180 bits here; what is answered are its lowest 64. */
    private static void digestWrapsAround() {
        HeatBranches x = new HeatBranches();
        x.setTemperatures(1200, 300);
        x.addBoiler(9999999, 5, 7);
        long[] text = {0};
        long[] values = {1200, 300, 50, 400, 10, 1, 1, 0, 0, 0, 0, 0, 0, 0, 0};
        long[] sums = {0, 0, 0};
        long[] house = {-1, 0, 0, 0, 0, 0, 0, 1200, -1, 0, 1, 0, 0, 0, -1};
        long[] boiler = {9999999, 5, 7, 0, 0};
        long[] end = {0, 2};
        BigInteger h = BigInteger.valueOf(3407);
        for (long[] row : new long[][] {text, values, sums, house, boiler, end}) {
            h = folded(h, row);
        }
        Checks.holds("the hash has overflowed", h.bitLength() > 64);
        Checks.due("digest", x.digest(), h.longValue());
    }
}
