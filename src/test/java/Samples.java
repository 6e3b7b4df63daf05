/** Networks that several tests use; their numbers are worked out by hand from the document. */
final class Samples {
    private Samples() {
    }

    /**
     * Node 1 (draw 20) feeds node 2 (draw 10, leak 5) and node 3 (no flow).
     * Flows 35, 15, 0; temperatures 780, 594, 80; need 17000.
     */
    static HeatBranches street() {
        HeatBranches x = new HeatBranches();
        x.addNode(0, 100, 10, 20, 400);
        x.addNode(1, 200, 20, 10, 300);
        x.addNode(1, 50, 5, 0, 500);
        x.setLeak(2, 5);
        return x;
    }

    /** The street with boilers that are used in the order 1, 0, 2, with loads 5000, 10000, 4000. */
    static HeatBranches heatedStreet() {
        HeatBranches x = street();
        x.addBoiler(10000, 0, 30);
        x.addBoiler(5000, 3000, 20);
        x.addBoiler(9000, 4000, 30);
        return x;
    }

    /**
     * 0 - 1, 0 - 7 - 8, 1 - 2, 1 - 6, 2 - 3, 2 - 4 - 5; node 5 leaks 4, node 8 leaks 6.
     */
    static HeatBranches tree() {
        HeatBranches x = new HeatBranches();
        int[] parents = {0, 1, 2, 2, 4, 1, 0, 7};
        for (int parent : parents) {
            x.addNode(parent, 10, 1, 3, 200);
        }
        x.setLeak(5, 4);
        x.setLeak(8, 6);
        return x;
    }

    /** The heated street with a meter, hours, a text of one node and 2 saved states, so that there is room for 2. */
    static HeatBranches busy() {
        HeatBranches x = heatedStreet();
        x.setMeter(2, true);
        x.pass(3);
        x.setTariff(60, 390, 9);
        x.pass(1);
        x.pass(1);
        x.undo();
        x.undo();
        write(x, "0,7,6,5,4;");
        return x;
    }

    /** All is full: 16 nodes in a chain, 4 boilers, 200 hours, 15 meters, 180 bytes of a text without an error. */
    static HeatBranches full() {
        HeatBranches x = new HeatBranches();
        for (int n = 1; n < 16; n++) {
            x.addNode(n - 1, 1, 0, 1, 0);
        }
        for (int n = 1; n < 16; n++) {
            x.setMeter(n, true);
        }
        for (int b = 0; b < 4; b++) {
            x.addBoiler(5000, b, b);
        }
        x.pass(100);
        x.pass(100);
        write(x, "0,10,1,1,10;".repeat(15));
        return x;
    }

    static void write(HeatBranches x, String text) {
        for (int i = 0; i < text.length(); i++) {
            x.append(text.charAt(i));
        }
    }
}
