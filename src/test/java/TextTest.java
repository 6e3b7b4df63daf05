/** Promises 26 to 28: the network text. */
public final class TextTest {
    private static final int[] EDGES = {Integer.MIN_VALUE, -1, 128, Integer.MAX_VALUE};
    private static final String NODE = "0,1,0,0,0;";

    public static void main(String[] args) {
        append();
        clearText();
        parse();
        parseKeepsTheRest();
        faults();
        ranges();
        sixteenthNode();
        fullText();
        Checks.finish("TextTest");
    }

    private static int parsed(String text) {
        HeatBranches x = Samples.street();
        Samples.write(x, text);
        return x.parse();
    }

    private static void faultAt(String text, int position) {
        HeatBranches x = Samples.street();
        Samples.write(x, text);
        long before = x.digest();
        Checks.due("parse of " + text, x.parse(), -10 - position);
        Checks.due("nothing changed by " + text, x.digest(), before);
    }

    private static void append() {
        HeatBranches x = new HeatBranches();
        for (int edge : EDGES) {
            Checks.refused(x, Checks.ARGUMENT, "append(" + edge + ")", () -> x.append(edge));
        }
        for (int i = 1; i <= 180; i++) {
            Checks.due("append " + i, x.append(i % 128), i);
        }
        Checks.refused(x, Checks.STATE, "append(0) to 180 bytes", () -> x.append(0));
        Checks.refused(x, Checks.ARGUMENT, "value ahead of the room", () -> x.append(128));
        Checks.due("clearText of 180", x.clearText(), 180);
        Checks.due("append(127)", x.append(127), 1);
        Checks.refused(x, Checks.STATE, "append is not undoable", x::undo);
    }

    private static void clearText() {
        HeatBranches x = new HeatBranches();
        Samples.write(x, NODE);
        Checks.due("clearText", x.clearText(), 10);
        Checks.due("clearText again", x.clearText(), 0);
        Checks.due("parse of nothing", x.parse(), 1);
        Checks.due("only parse is undoable", x.undo(), 0);
    }

    private static void parse() {
        HeatBranches x = new HeatBranches();
        Samples.write(x, "0,100,10,20,400;01,200,20,010,0300;1,50,5,0,500;");
        Checks.due("parse", x.parse(), 4);
        Checks.due("flow of the text", x.node(0, 6), 30);
        Checks.due("temperature of the text", x.node(1, 7), 800 - 720 * 1000 / 30000);
        Checks.due("region of the text", x.region(0), 3);
        x.setLeak(2, 5);
        int[] same = {0, 1, 2, 3, 4, 5, 6, 7, 8, 9, 10, 11};
        HeatBranches street = Samples.street();
        for (int n = 0; n < 4; n++) {
            for (int what : same) {
                Checks.due("node(" + n + ", " + what + ")", x.node(n, what), street.node(n, what));
            }
        }
        x.undo();
        Checks.due("parse is undoable", x.undo(), 0);
        Checks.due("nodes after undo", x.value(5), 1);
        Checks.due("the text has stayed", x.parse(), 4);
    }

    private static void parseKeepsTheRest() {
        HeatBranches x = Samples.heatedStreet();
        x.setMeter(1, true);
        x.setTariff(60, 410, 20);
        x.setTemperatures(900, 90);
        x.pass(2);
        int costs = x.value(10);
        Samples.write(x, "0,1,0,1,0;1,1,0,1,0;");
        Checks.due("parse", x.parse(), 3);
        int[] want = {900, 90, 60, 410, 20, 3, 3};
        for (int i = 0; i < want.length; i++) {
            Checks.due("value(" + i + ") is kept", x.value(i), want[i]);
        }
        Checks.due("costs so far are kept", x.value(10), costs);
        Checks.due("hours so far are kept", x.value(11), 2);
        Checks.due("no accounts", x.value(12), 0);
        Checks.due("no meters", x.value(14), 0);
        Checks.due("no leaks", x.balance(0), 0);
        Checks.due("undo brings them back", x.undo(), 3);
        Checks.due("meters after undo", x.value(14), 1);
        Checks.due("leaks after undo", x.node(2, 5), 5);
        Checks.due("text after undo", x.clearText(), 20);
    }

    private static void faults() {
        faultAt("0", 1);
        faultAt("0,", 2);
        faultAt("0,1,0,0,0", 9);
        faultAt("0,1,0,0,", 8);
        faultAt(",1,0,0,0;", 0);
        faultAt(" 0,1,0,0,0;", 0);
        faultAt("0, 1,0,0,0;", 2);
        faultAt("0;", 1);
        faultAt("0,1;", 3);
        faultAt("0,1,0,0,0,", 9);
        faultAt("0,1,0,0;", 7);
        faultAt("000,1,0,0,0;", 2);
        faultAt("0,0001,0,0,0;", 5);
        faultAt("0,1,000,0,0;", 6);
        faultAt("0,1,0,0000,0;", 9);
        faultAt("0,1,0,0,00000;", 12);
        faultAt("0,1,0,0,0;;", 10);
        faultAt("0,1,0,0,0;\0", 10);
        faultAt("0,1,0,0,0:", 9);
        faultAt("0,1,0,0,/;", 8);
        Checks.due("widest numbers", parsed("00,001,00,000,0000;"), 2);
        Checks.due("two nodes", parsed("0,1,0,0,0;1,500,50,500,1200;"), 3);
    }

    private static void ranges() {
        faultAt("1,1,0,0,0;", 0);
        faultAt("1", 0);
        faultAt("1x", 0);
        faultAt("123", 2);
        faultAt("0,0,0,0,0;", 2);
        faultAt("0,0", 2);
        faultAt("0,501,0,0,0;", 2);
        faultAt("0,501", 2);
        faultAt("0,501;", 2);
        faultAt("0,5011,0,0,0;", 5);
        faultAt("0,1,51,0,0;", 4);
        faultAt("0,1,511,0,0;", 6);
        faultAt("0,1,0,501,0;", 6);
        faultAt("0,1,0,999,0;", 6);
        faultAt("0,1,0,9999,0;", 9);
        faultAt("0,1,0,0,1201;", 8);
        faultAt("0,1,0,0,9999", 8);
        faultAt("0,1,0,0,99999", 12);
        faultAt("0,1,0,0,1201,", 8);
        faultAt("0,1,0,0,0;2,1,0,0,0;", 10);
        faultAt("0,1,0,0,0;02,1,0,0,0;", 10);
        faultAt("0,1,0,0,0;1,1,0,0,0;99", 20);
    }

    private static void sixteenthNode() {
        String fifteen = NODE.repeat(15);
        Checks.due("15 nodes", parsed(fifteen), 16);
        faultAt(fifteen + "0", 150);
        faultAt(fifteen + ";", 150);
        faultAt(fifteen + "0,1,0,0,0;", 150);
        faultAt(fifteen.substring(0, 149), 149);
        HeatBranches x = new HeatBranches();
        Samples.write(x, NODE + NODE + NODE + NODE + NODE + NODE + NODE + NODE + NODE + NODE);
        Samples.write(x, "10,1,0,0,0;11,1,0,0,0;12,1,0,0,0;13,1,0,0,0;14,1,0,0,0;");
        Checks.due("parents of two digits", x.parse(), 16);
        Checks.due("parent of the last node", x.node(15, 0), 14);
    }

    /** Texts of 180 bytes: the end of the text is the end of the room, too. */
    private static void fullText() {
        String fourteen = "0,10,1,1,10;".repeat(14);
        Checks.due("15 nodes of 12 bytes", parsed(fourteen + "0,10,1,1,10;"), 16);
        faultAt(fourteen + "0,10,1,1,100", 180);
        faultAt(fourteen + "0,100,10,10,", 180);
        faultAt(fourteen + "0,1,1,1,1201", 176);
        faultAt(fourteen + "0,10,10,1111", 179);
        HeatBranches x = new HeatBranches();
        Samples.write(x, "0,,");
        Checks.due("a fault", x.parse(), -12);
        x.clearText();
        Samples.write(x, NODE);
        Checks.due("no fault after a fault", x.parse(), 2);
    }
}
