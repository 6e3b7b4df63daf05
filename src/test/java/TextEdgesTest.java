/** Boundary cases of promises 26 to 28, and of 'Network text'. */
public final class TextEdgesTest {
    private static final Class<?> ARGUMENT = Checks.ARGUMENT;
    private static final Class<?> STATE = Checks.STATE;

    private static final String NODE = "0,1,0,0,0;";
    /** Numbers of the most digits; each one more digit is one too many. */
    private static final String WIDE = "00,500,50,500,1200;";
    private static final int END_OF_TEXT = -1;

    public static void main(String[] args) {
        bytesTaken();
        textOf180Bytes();
        clearText();
        emptyText();
        fifteenNodes();
        sixteenthNode();
        textEndsTooEarly();
        wrongByteEverywhere();
        mostDigits();
        digitTooMany();
        noDigit();
        ranges();
        parentsBelowTheNode();
        rangeFoundByAnyByte();
        zerosInFront();
        fullTexts();
        firstFaultCounts();
        mendedText();
        parseMakesNew();
        parseKeepsTheRest();
        undoOfParse();
        notUndoable();
        Checks.finish("TextEdgesTest");
    }

    private static HeatBranches with(String text) {
        HeatBranches x = Samples.busy();
        x.clearText();
        Samples.write(x, text);
        return x;
    }

    private static void takenAs(String text, int nodes) {
        Checks.due("parse of '" + text + "'", with(text).parse(), nodes);
    }

    /** Nothing at all has changed then, not the saved states either. */
    private static void faultAt(String text, int position) {
        HeatBranches x = with(text);
        Checks.due("parse of '" + text + "'", x.parse(), -10 - position);
        Edges.alike("behind the fault in '" + text + "'", x, with(text));
    }

    private static void bytesTaken() {
        Edges.range("a byte", ARGUMENT, 0, 127, Samples::busy, (x, v) -> x.append(v));
        Edges.range("a first byte", ARGUMENT, 0, 127, HeatBranches::new, (x, v) -> x.append(v));
        Edges.refused("a byte that is a comma above 255", ARGUMENT, Samples::busy, x -> x.append(256 + ','));
    }

    private static HeatBranches bytes(int count) {
        HeatBranches x = new HeatBranches();
        for (int i = 1; i <= count; i++) {
            Checks.due("length of the text", x.append('0'), i);
        }
        return x;
    }

    private static void textOf180Bytes() {
        Checks.due("the 180th byte", bytes(179).append(127), 180);
        Edges.refused("the 181st byte", STATE, () -> bytes(180), x -> x.append('0'));
        Edges.refused("the 181st byte", STATE, Samples::full, x -> x.append(0));
        Edges.refused("no byte, no room", ARGUMENT, Samples::full, x -> x.append(128));
        Edges.refused("no byte below 0, no room", ARGUMENT, Samples::full, x -> x.append(-1));
        HeatBranches x = bytes(180);
        Checks.due("a full text", x.clearText(), 180);
        Checks.due("room behind clearText", x.append(127), 1);
    }

    private static void clearText() {
        HeatBranches x = new HeatBranches();
        Checks.due("an empty text", x.clearText(), 0);
        x.append('0');
        Checks.due("a text of one byte", x.clearText(), 1);
        Checks.due("an empty text again", x.clearText(), 0);
        HeatBranches y = with(WIDE);
        y.clearText();
        y.append('1');
        Checks.due("nothing is left of the old text", y.parse(), -10);
        Checks.due("but for what was appended", y.clearText(), 1);
    }

    private static void emptyText() {
        HeatBranches x = with("");
        Checks.due("no nodes", x.parse(), 1);
        Checks.due("nodes", x.value(5), 1);
        Checks.due("saved states", x.undo(), 2);
        Checks.due("nodes before", x.value(5), 4);
        Checks.due("no nodes in a new object", new HeatBranches().parse(), 1);
    }

    private static void fifteenNodes() {
        HeatBranches x = with(NODE.repeat(14));
        Checks.due("14 nodes", x.parse(), 15);
        Samples.write(x, "14,2,3,4,5;");
        Checks.due("15 nodes", x.parse(), 16);
        int[] last = {14, 2, 3, 4, 5, 0};
        for (int what = 0; what < last.length; what++) {
            Checks.due("node(15, " + what + ")", x.node(15, what), last[what]);
        }
        HeatBranches again = Samples.full();
        Checks.due("15 nodes in place of 15", again.parse(), 16);
    }

    private static void sixteenthNode() {
        String fifteen = NODE.repeat(15);
        for (char c : "0159,; x\0\177".toCharArray()) {
            faultAt(fifteen + c, 150);
        }
        faultAt(fifteen + NODE, 150);
        faultAt(fifteen + "15,1,0,0,0;", 150);
        faultAt(NODE.repeat(14) + "0,1,0,0,1201;0", 148);
    }

    private static void textEndsTooEarly() {
        for (int length = 1; length < WIDE.length(); length++) {
            faultAt(WIDE.substring(0, length), length);
            faultAt(NODE + WIDE.substring(0, length), 10 + length);
        }
        takenAs(WIDE, 2);
        takenAs(NODE + WIDE, 3);
    }

    /** At each place of the text each byte that is no digit and not the one that stands there. */
    private static void wrongByteEverywhere() {
        for (int at = 0; at < WIDE.length(); at++) {
            for (int wrong = 0; wrong < 128; wrong++) {
                boolean digit = wrong >= '0' && wrong <= '9';
                char stands = WIDE.charAt(at);
                boolean shorter = at > 0 && wrong == endOfNumber(at);
                if (!digit && wrong != stands && !shorter) {
                    String text = WIDE.substring(0, at) + (char) wrong + WIDE.substring(at + 1);
                    Checks.due("parse of '" + text + "'", with(text).parse(), -10 - at);
                }
            }
        }
    }

    /** The byte that ends the number at this place: there it makes the number a shorter one. */
    private static char endOfNumber(int at) {
        return at >= WIDE.lastIndexOf(',') ? ';' : ',';
    }

    private static void mostDigits() {
        takenAs("00,001,00,000,0000;", 2);
        takenAs("0,001,0,0,0;", 2);
        takenAs("0,1,0,0,0;01,500,50,500,1200;", 3);
        takenAs("0,1,0,0,0;1,1,0,0,0;", 3);
    }

    /** Whatever the digits ahead are: in their range, zeros, or far out of it. */
    private static void digitTooMany() {
        for (String ahead : new String[] {"00", "10", "99"}) {
            faultAt(ahead + "0,1,0,0,0;", 2);
            faultAt(ahead + "9", 2);
            faultAt("0,1," + ahead + "0,0,0;", 6);
            faultAt("0,1," + ahead + "7", 6);
        }
        for (String ahead : new String[] {"000", "001", "500", "501", "999"}) {
            faultAt("0," + ahead + "0,0,0,0;", 5);
            faultAt("0," + ahead + "5", 5);
            faultAt("0,1,0," + ahead + "1,0;", 9);
            faultAt("0,1,0," + ahead + "0", 9);
        }
        for (String ahead : new String[] {"0000", "0001", "1200", "1201", "9999"}) {
            faultAt("0,1,0,0," + ahead + "0;", 12);
            faultAt("0,1,0,0," + ahead + "2", 12);
            faultAt("0,1,0,0," + ahead + "99999999999;", 12);
        }
    }

    private static void noDigit() {
        faultAt(",1,0,0,0;", 0);
        faultAt("0,,0,0,0;", 2);
        faultAt("0,1,,0,0;", 4);
        faultAt("0,1,0,,0;", 6);
        faultAt("0,1,0,0,;", 8);
        faultAt(";", 0);
        faultAt(NODE + ";", 10);
        faultAt("-1,1,0,0,0;", 0);
        faultAt("0,1,0,0,0;\n", 10);
        faultAt("0,1,0,0,/;", 8);
        faultAt("0,1,0,0,:;", 8);
    }

    private static void rangeAt(String ahead, String behind, int low, int high, int digits) {
        takenAs(ahead + low + behind, 2);
        takenAs(ahead + high + behind, 2);
        if (low > 0) {
            faultAt(ahead + (low - 1) + behind, ahead.length());
        }
        faultAt(ahead + (high + 1) + behind, ahead.length());
        faultAt(ahead + "9".repeat(digits) + behind, ahead.length());
    }

    private static void ranges() {
        rangeAt("", ",1,0,0,0;", 0, 0, 2);
        rangeAt("0,", ",0,0,0;", 1, 500, 3);
        rangeAt("0,1,", ",0,0;", 0, 50, 2);
        rangeAt("0,1,0,", ",0;", 0, 500, 3);
        rangeAt("0,1,0,0,", ";", 0, 1200, 4);
        faultAt("0,00,0,0,0;", 2);
        faultAt("0,000,0,0,0;", 2);
    }

    private static void parentsBelowTheNode() {
        StringBuilder chain = new StringBuilder();
        for (int n = 1; n < 16; n++) {
            String ahead = chain.toString();
            int at = ahead.length();
            String parent = Integer.toString(n);
            Checks.due("parent " + n + " of node " + n, with(ahead + parent + ",1,0,0,0;").parse(), -10 - at);
            Checks.due("parent 99 of node " + n, with(ahead + "99,1,0,0,0;").parse(), -10 - at);
            chain.append(n - 1).append(",1,0,0,0;");
            HeatBranches x = with(chain.toString());
            Checks.due("parent of node " + n, x.parse(), n + 1);
            Checks.due("parent of node " + n, x.node(n, 0), n - 1);
        }
    }

    /** The first byte that is no digit, whichever it is, or the end of the text, ahead of a fault of its own. */
    private static void rangeFoundByAnyByte() {
        int[] behind = {END_OF_TEXT, ',', ';', ' ', 'x', 0, 127, '/', ':', '-'};
        String[] ahead = {"", "0,", "0,", "0,1,", "0,1,0,", "0,1,0,0,"};
        String[] numbers = {"1", "0", "501", "51", "501", "1201"};
        for (int c : behind) {
            String end = c == END_OF_TEXT ? "" : Character.toString(c);
            for (int i = 0; i < ahead.length; i++) {
                faultAt(ahead[i] + numbers[i] + end, ahead[i].length());
            }
        }
        faultAt("0,01,0,0,0;02", 11);
        faultAt("0,0", 2);
        faultAt("0,00", 2);
        faultAt("0,000", 2);
        faultAt("1", 0);
        faultAt("01", 0);
        takenAs("0,1,0,0,0;1,01,0,0,0;", 3);
    }

    private static void zerosInFront() {
        HeatBranches x = with("00,007,06,005,0004;01,070,06,050,0040;");
        Checks.due("zeros in front", x.parse(), 3);
        int[] first = {0, 7, 6, 5, 4};
        int[] second = {1, 70, 6, 50, 40};
        for (int what = 0; what < first.length; what++) {
            Checks.due("node(1, " + what + ")", x.node(1, what), first[what]);
            Checks.due("node(2, " + what + ")", x.node(2, what), second[what]);
        }
    }

    private static void fullTexts() {
        String fourteen = "0,10,1,1,10;".repeat(14);
        takenAs(fourteen + "0,10,1,1,10;", 16);
        takenAs(fourteen + "13,1,1,1,12;", 16);
        faultAt(fourteen + "0,100,1,1,10", 180);
        faultAt(fourteen + "0,100,1,1,1,", 179);
        faultAt(fourteen + "0,100,10,10,", 180);
        faultAt(fourteen + "0,1,1,1,1201", 176);
        faultAt(fourteen + "0,1,1,11,555", 180);
        faultAt(fourteen + "0,1,1,100000", 177);
        faultAt(WIDE.repeat(9) + "00,500,50", 180);
        faultAt(NODE.repeat(15) + "0".repeat(30), 150);
    }

    private static void firstFaultCounts() {
        faultAt("0,501,51,501,1201;", 2);
        faultAt("0,1,51,501,1201;", 4);
        faultAt("0,1,0,501,1201;", 6);
        faultAt("1,0,51,501,1201;", 0);
        faultAt("1;0,0", 0);
        faultAt("0;0,0", 1);
        faultAt(NODE + "2,0,51,501,1201;", 10);
        faultAt(NODE + NODE + "0,1,0,0,0,", 29);
    }

    /** What ended too early goes on; what was wrong stays wrong, whatever follows. */
    private static void mendedText() {
        HeatBranches x = with("0,1,0,0,12");
        Checks.due("it ends too early", x.parse(), -20);
        Samples.write(x, "00;");
        Checks.due("it goes on", x.parse(), 2);
        Checks.due("its setting", x.node(1, 4), 1200);
        Samples.write(x, "2");
        Checks.due("a parent that is none", x.parse(), -23);
        Samples.write(x, ",1,0,0,0;");
        Checks.due("it is still none", x.parse(), -23);
        x.clearText();
        Checks.due("an empty text", x.parse(), 1);
    }

    private static void parseMakesNew() {
        HeatBranches x = with("0,7,6,5,4;1,8,7,6,5;0,9,8,7,6;1,9,9,9,9;");
        x.setLeak(3, 100);
        x.setMeter(1, true);
        Checks.due("parse", x.parse(), 5);
        Checks.due("no meters", x.value(14), 0);
        Checks.due("no accounts", x.value(12), 0);
        for (int n = 1; n < 5; n++) {
            Checks.due("no leak", x.node(n, 5), 0);
            Checks.due("no account", x.node(n, 11), 0);
            Checks.due("no meter", x.region(n), -1);
        }
    }

    private static void parseKeepsTheRest() {
        HeatBranches x = Samples.busy();
        x.setTemperatures(777, 77);
        Checks.due("parse", x.parse(), 2);
        int[] want = {777, 77, 60, 390, 9, 2, 3};
        for (int what = 0; what < want.length; what++) {
            Checks.due("value(" + what + ")", x.value(what), want[what]);
        }
        Checks.due("costs so far", x.value(10), 3 * 520);
        Checks.due("hours so far", x.value(11), 3);
        Checks.due("the cost of boiler 2", x.boiler(2, 2), 30);
        Checks.due("parse again", x.parse(), 2);
        Checks.due("the text", x.clearText(), 10);
    }

    private static void undoOfParse() {
        Edges.undoable("parse", Samples::busy, HeatBranches::parse);
        Edges.undoable("parse of nothing", () -> with(""), HeatBranches::parse);
        Edges.undoable("parse that changes nothing", () -> {
            HeatBranches x = new HeatBranches();
            Samples.write(x, NODE);
            x.parse();
            return x;
        }, HeatBranches::parse);
        Edges.notUndoable("parse of a fault", () -> with("0"), HeatBranches::parse);
    }

    private static void notUndoable() {
        Edges.notUndoable("append", Samples::busy, x -> x.append('0'));
        Edges.notUndoable("clearText", Samples::busy, HeatBranches::clearText);
        HeatBranches x = Samples.busy();
        x.append('1');
        x.undo();
        Checks.due("undo leaves the text", x.parse(), -21);
        x.clearText();
        x.undo();
        Checks.due("and leaves it empty", x.clearText(), 0);
    }
}
