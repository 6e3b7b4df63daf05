/**
 * What the tests of boundary cases share. Each trial has fresh objects of its own, and a refused call is
 * made on one of two equal objects: afterwards the two have to answer alike, down to the saved states.
 */
final class Edges {
    interface Maker {
        HeatBranches made();
    }

    interface Act {
        long on(HeatBranches x);
    }

    interface ActWith {
        long on(HeatBranches x, int value);
    }

    private static final int NOTHING_SAVED = -1;

    private Edges() {
    }

    /** The first and the last value are taken; one less, one more and the ends of int are refused. */
    static void range(String what, Class<?> kind, int low, int high, Maker maker, ActWith act) {
        for (int value : new int[] {low, high}) {
            taken(what + " of " + value, maker, x -> act.on(x, value));
        }
        for (int value : new int[] {low - 1, high + 1, Integer.MIN_VALUE, Integer.MAX_VALUE}) {
            refused(what + " of " + value, kind, maker, x -> act.on(x, value));
        }
    }

    /** As range(), and what is read behind the call is the value that was given. */
    static void keptRange(String what, int low, int high, Maker maker, ActWith act, Act read) {
        range(what, Checks.ARGUMENT, low, high, maker, act);
        for (int value : new int[] {low, high}) {
            HeatBranches x = maker.made();
            act.on(x, value);
            Checks.due(what + " is kept", read.on(x), value);
        }
    }

    static void taken(String what, Maker maker, Act act) {
        Checks.due(what + " throws", thrownBy(maker.made(), act), "nothing");
    }

    static void refused(String what, Class<?> kind, Maker maker, Act act) {
        HeatBranches x = maker.made();
        Checks.due(what + " throws", thrownBy(x, act), kind.getName());
        alike("behind the refused " + what, x, maker.made());
    }

    /** Such a call saves one state, and undo brings all back; the maker's objects have room for it. */
    static void undoable(String what, Maker maker, Act act) {
        HeatBranches x = maker.made();
        int saved = savedStates(maker);
        act.on(x);
        Checks.due("saved states behind " + what, x.undo(), saved);
        alike("behind the undone " + what, x, maker.made());
    }

    /** Such a call saves nothing. */
    static void notUndoable(String what, Maker maker, Act act) {
        HeatBranches x = maker.made();
        act.on(x);
        Checks.due("saved states behind " + what, undone(x), savedStates(maker) - 1);
    }

    /** Compares the state, then what the text holds, then each saved state. */
    static void alike(String what, HeatBranches x, HeatBranches other) {
        Checks.due(what + ": digest", x.digest(), other.digest());
        Checks.due(what + ": undo", backToTheFirst(what, x, other), NOTHING_SAVED);
        Checks.due(what + ": parse", x.parse(), other.parse());
        Checks.due(what + ": digest behind parse", x.digest(), other.digest());
        Checks.due(what + ": length of the text", x.clearText(), other.clearText());
    }

    private static int backToTheFirst(String what, HeatBranches x, HeatBranches other) {
        int left = 0;
        for (int i = 0; i <= 4 && left > NOTHING_SAVED; i++) {
            left = undone(x);
            Checks.due(what + ": undo", left, undone(other));
            Checks.due(what + ": digest of a saved state", x.digest(), other.digest());
        }
        return left;
    }

    private static int savedStates(Maker maker) {
        return undone(maker.made()) + 1;
    }

    private static int undone(HeatBranches x) {
        try {
            return x.undo();
        } catch (IllegalStateException e) {
            return NOTHING_SAVED;
        }
    }

    private static String thrownBy(HeatBranches x, Act act) {
        try {
            act.on(x);
            return "nothing";
        } catch (RuntimeException e) {
            return e.getClass().getName();
        }
    }
}
