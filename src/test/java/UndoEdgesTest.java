/** Boundary cases of promises 29 and 30, of 'Undo' and of 'Exceptions'. */
public final class UndoEdgesTest {
    public static void main(String[] args) {
        noSavedState();
        fromOneToFour();
        theFifthDropsTheOldest();
        manyTimesAround();
        undoInBetween();
        undoOfAnUndo();
        allButTheText();
        refusedCallsSaveNothing();
        digestCountsWhatIsSaved();
        digestCountsTheText();
        Checks.finish("UndoEdgesTest");
    }

    /** Prices 1 to the last one, each set for itself. */
    private static HeatBranches priced(int last) {
        HeatBranches x = new HeatBranches();
        for (int price = 1; price <= last; price++) {
            x.setTariff(price, 0, 0);
        }
        return x;
    }

    private static void noSavedState() {
        Edges.refused("undo of a new object", Checks.STATE, HeatBranches::new, HeatBranches::undo);
        for (int changes = 1; changes <= 5; changes++) {
            int made = changes;
            Edges.refused("one undo too many", Checks.STATE, () -> undone(priced(made), Math.min(made, 4)),
                HeatBranches::undo);
        }
    }

    private static HeatBranches undone(HeatBranches x, int times) {
        for (int i = 0; i < times; i++) {
            x.undo();
        }
        return x;
    }

    private static void fromOneToFour() {
        for (int changes = 1; changes <= 4; changes++) {
            HeatBranches x = priced(changes);
            for (int left = changes - 1; left >= 0; left--) {
                Checks.due("saved states left of " + changes, x.undo(), left);
                Checks.due("price", x.value(2), left == 0 ? 50 : left);
            }
            Edges.alike("all undone", x, new HeatBranches());
        }
    }

    private static void theFifthDropsTheOldest() {
        HeatBranches x = priced(5);
        for (int left = 3; left >= 0; left--) {
            Checks.due("saved states left of five", x.undo(), left);
            Checks.due("price", x.value(2), left + 1);
        }
        Edges.refused("the one that was dropped", Checks.STATE, () -> undone(priced(5), 4), HeatBranches::undo);
    }

    private static void manyTimesAround() {
        for (int changes = 6; changes <= 13; changes++) {
            HeatBranches x = undone(priced(changes), 4);
            Checks.due("price behind 4 undos of " + changes, x.value(2), changes - 4);
        }
    }

    /** The state that is saved next takes the place of the one that was undone. */
    private static void undoInBetween() {
        HeatBranches x = undone(priced(6), 2);
        Checks.due("price", x.value(2), 4);
        for (int price = 14; price <= 16; price++) {
            x.setTariff(price, 0, 0);
        }
        int[] prices = {15, 14, 4, 3};
        for (int i = 0; i < prices.length; i++) {
            Checks.due("saved states left", x.undo(), 3 - i);
            Checks.due("price", x.value(2), prices[i]);
        }
    }

    private static void undoOfAnUndo() {
        HeatBranches x = priced(2);
        x.undo();
        Checks.due("undo saves nothing", x.undo(), 0);
        Checks.due("the first state", x.value(2), 50);
    }

    /** Bytes that came or went in between are as they were behind the last call of their own. */
    private static void allButTheText() {
        HeatBranches x = Samples.busy();
        x.append('0');
        x.setDraw(1, 1, 1);
        x.setTemperatures(400, 300);
        x.undo();
        x.undo();
        HeatBranches y = Samples.busy();
        y.append('0');
        Edges.alike("but for the text", x, y);
        HeatBranches z = Samples.busy();
        z.parse();
        z.clearText();
        z.undo();
        HeatBranches cleared = Samples.busy();
        cleared.clearText();
        Edges.alike("with a text that was emptied", z, cleared);
    }

    private static void refusedCallsSaveNothing() {
        Edges.notUndoable("a refused node", Samples::busy, x -> quietly(() -> x.addNode(0, 0, 0, 0, 0)));
        Edges.notUndoable("a refused draw", Samples::busy, x -> quietly(() -> x.setDraw(1, -1, 0)));
        Edges.notUndoable("a refused leak", Samples::busy, x -> quietly(() -> x.setLeak(1, 101)));
        Edges.notUndoable("refused temperatures", Samples::busy, x -> quietly(() -> x.setTemperatures(0, 0)));
        Edges.notUndoable("a refused boiler", Samples::busy, x -> quietly(() -> x.addBoiler(0, 0, 0)));
        Edges.notUndoable("a refused cost", Samples::busy, x -> quietly(() -> x.setCost(0, 100)));
        Edges.notUndoable("a refused tariff", Samples::busy, x -> quietly(() -> x.setTariff(0, 0, 100)));
        Edges.notUndoable("refused hours", Samples::busy, x -> quietly(() -> x.pass(0)));
        Edges.notUndoable("a refused meter", Samples::busy, x -> quietly(() -> x.setMeter(0, true)));
        Edges.notUndoable("a refused byte", Samples::busy, x -> quietly(() -> x.append(128)));
    }

    private static long quietly(Checks.Call call) {
        try {
            return call.run();
        } catch (RuntimeException e) {
            return 0;
        }
    }

    private static void digestCountsWhatIsSaved() {
        HeatBranches x = new HeatBranches();
        long first = x.digest();
        for (int saved = 1; saved <= 4; saved++) {
            x.setTariff(50, 400, 10);
            Checks.due("digest with saved states", x.digest(), first + saved);
        }
        x.setTariff(50, 400, 10);
        Checks.due("there are never more than 4", x.digest(), first + 4);
    }

    /** The length comes first, so each byte counts 31 for each of the values behind it. */
    private static void digestCountsTheText() {
        HeatBranches x = new HeatBranches();
        long first = x.digest();
        long weight = 1;
        for (int behind = 0; behind < 15 + 3 + 12 + 3 + 2; behind++) {
            weight *= 31;
        }
        for (int length = 1; length <= 180; length++) {
            x.append(length % 128);
            Checks.due("digest with a text", x.digest(), first + length * weight);
        }
        x.clearText();
        Checks.due("digest without a text", x.digest(), first);
    }
}
