/** Promises 29 and 30: undo and digest. */
public final class StateTest {
    public static void main(String[] args) {
        undo();
        fourStates();
        everythingComesBack();
        failedCallsSaveNothing();
        digest();
        Checks.finish("StateTest");
    }

    private static void undo() {
        HeatBranches x = new HeatBranches();
        Checks.refused(x, Checks.STATE, "nothing to undo", x::undo);
        long empty = x.digest();
        x.addNode(0, 1, 0, 1, 0);
        Checks.due("undo", x.undo(), 0);
        Checks.due("digest after undo", x.digest(), empty);
        Checks.refused(x, Checks.STATE, "nothing more to undo", x::undo);
    }

    private static void fourStates() {
        HeatBranches x = new HeatBranches();
        for (int price = 1; price <= 7; price++) {
            x.setTariff(price, 0, 0);
        }
        for (int left = 3; left >= 0; left--) {
            Checks.due("undo of five", x.undo(), left);
            Checks.due("price", x.value(2), 3 + left);
        }
        Checks.refused(x, Checks.STATE, "the oldest are dropped", x::undo);
        x.setTariff(8, 0, 0);
        x.setTariff(9, 0, 0);
        x.undo();
        x.setTariff(10, 0, 0);
        Checks.due("undo in turns", x.undo(), 1);
        Checks.due("price", x.value(2), 8);
        Checks.due("undo in turns", x.undo(), 0);
        Checks.due("price", x.value(2), 3);
    }

    /** One call of each undoable method is undone; the digest has the number of saved states in it. */
    private static void everythingComesBack() {
        for (int call = 0; call < 9; call++) {
            HeatBranches x = Samples.heatedStreet();
            Samples.write(x, "0,1,0,1,0;");
            x.setMeter(2, true);
            x.pass(5);
            x.undo();
            long before = x.digest();
            change(x, call);
            Checks.holds("call " + call + " changes the digest", x.digest() != before);
            x.undo();
            Checks.due("digest after call " + call, x.digest(), before);
        }
    }

    private static void change(HeatBranches x, int call) {
        switch (call) {
            case 0: x.addNode(2, 1, 1, 1, 1); break;
            case 1: x.setDraw(1, 1, 1); break;
            case 2: x.setLeak(1, 1); break;
            case 3: x.setTemperatures(401, 1); break;
            case 4: x.addBoiler(1, 1, 1); break;
            case 5: x.setCost(1, 1); break;
            case 6: x.setTariff(1, 1, 1); break;
            case 7: x.setMeter(1, true); break;
            default: x.parse(); break;
        }
    }

    private static void failedCallsSaveNothing() {
        HeatBranches x = Samples.street();
        x.undo();
        x.undo();
        x.undo();
        Samples.write(x, "0,");
        Checks.due("a syntax error", x.parse(), -12);
        x.node(0, 0);
        x.cheapestSupply();
        x.metersToFind();
        x.clearText();
        Checks.refused(x, Checks.INDEX, "no node", () -> x.setLeak(9, 0));
        Checks.due("only one state is saved", x.undo(), 0);
    }

    private static void digest() {
        Checks.due("digest of a new object", new HeatBranches().digest(), digestByCalls(new HeatBranches(), 0, 0));
        HeatBranches x = Samples.heatedStreet();
        x.setMeter(2, true);
        x.pass(100);
        Samples.write(x, "0,1");
        Checks.due("digest", x.digest(), digestByCalls(x, 3, 4));
        Checks.due("digest changes nothing", x.digest(), digestByCalls(x, 3, 4));
        HeatBranches tree = Samples.tree();
        Checks.due("digest of the tree", tree.digest(), digestByCalls(tree, 0, 4));
    }

    /** What the document lists, by the calls that it names. */
    private static long digestByCalls(HeatBranches x, int textLength, int saved) {
        long h = 31 * 3407L + textLength;
        for (int what = 0; what <= 14; what++) {
            h = 31 * h + x.value(what);
        }
        for (int what = 0; what <= 2; what++) {
            h = 31 * h + x.sum(what);
        }
        for (int n = 0; n < x.value(5); n++) {
            for (int what = 0; what <= 11; what++) {
                h = 31 * h + x.node(n, what);
            }
            h = 31 * h + x.balance(n);
            h = 31 * h + x.region(n);
            h = 31 * h + x.nextMeter(n);
        }
        for (int n = 1; n < x.value(5); n++) {
            for (int what = 0; what <= 5; what++) {
                h = 31 * h + x.heat(n, what);
            }
        }
        for (int b = 0; b < x.value(6); b++) {
            for (int what = 0; what <= 4; what++) {
                h = 31 * h + x.boiler(b, what);
            }
        }
        h = 31 * h + x.suspects();
        return 31 * h + saved;
    }
}
