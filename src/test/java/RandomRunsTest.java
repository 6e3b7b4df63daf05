import java.util.Random;

/** Long runs of calls, the same ones each time, beside the model: every answer has to be the same. */
public final class RandomRunsTest {
    private static final int RUNS = 1200;
    /** What an object answers to later calls is free. */
    private static final int CALLS = 512;
    private static final int[] ODD = {Integer.MIN_VALUE, -201, -1, 0, 501, 1201, 10000000, Integer.MAX_VALUE};

    private final Random random;
    private final HeatBranches x = new HeatBranches();
    private final Model model = new Model();
    private int calls = 0;

    private RandomRunsTest(long seed) {
        random = new Random(seed);
    }

    public static void main(String[] args) {
        for (int run = 0; run < RUNS; run++) {
            new RandomRunsTest(run).run(run);
        }
        Checks.finish("RandomRunsTest");
    }

    private void run(int run) {
        for (int call = 0; call < CALLS; call++) {
            if (!one(run, call)) {
                return;
            }
            if (call % 8 == 0 && !same("digest", run, call, x::digest, model::digest)) {
                return;
            }
        }
    }

    private int within(int low, int high) {
        int kind = random.nextInt(60);
        if (kind == 0) {
            return ODD[random.nextInt(ODD.length)];
        }
        if (kind == 1) {
            return low - 1;
        }
        if (kind == 2) {
            return high + 1;
        }
        if (kind < 9) {
            return kind % 2 == 0 ? low : high;
        }
        return low + random.nextInt(high - low + 1);
    }

    private int someNode() {
        return within(random.nextInt(8) == 0 ? 0 : 1, Math.max(1, model.value(5) - 1));
    }

    private int someDraw() {
        return random.nextInt(3) == 0 ? 0 : within(0, random.nextBoolean() ? 30 : 500);
    }

    private int someLooseness() {
        return within(0, random.nextBoolean() ? 8 : 50);
    }

    private boolean one(int run, int call) {
        switch (random.nextInt(26)) {
            case 0: case 1: case 2: return addNode(run, call);
            case 3: return setDraw(run, call);
            case 4: return setLeak(run, call);
            case 5: return setTemperatures(run, call);
            case 6: return addBoiler(run, call);
            case 7: return setCost(run, call);
            case 8: return setTariff(run, call);
            case 9: return pass(run, call);
            case 10: case 11: return setMeter(run, call);
            case 12: return supplyFor(run, call);
            case 13: return random.nextInt(4) != 0 || same("cheapestSupply", run, call, x::cheapestSupply,
                model::cheapestSupply);
            case 14: return same("metersToFind", run, call, x::metersToFind, model::metersToFind);
            case 15: return same("efficiency", run, call, x::efficiency, model::efficiency);
            case 16: return random.nextInt(6) != 0 || text(run, call);
            case 17: return random.nextInt(3) != 0 || same("parse", run, call, x::parse, model::parse);
            case 18: return same("undo", run, call, x::undo, model::undo);
            case 19: return same("suspects", run, call, x::suspects, model::suspects);
            case 20: return value(run, call);
            default: return aboutNode(run, call);
        }
    }

    private boolean addNode(int run, int call) {
        int parent = within(0, model.value(5) - 1);
        int length = within(1, 500);
        int looseness = someLooseness();
        int draw = someDraw();
        int setting = within(0, random.nextBoolean() ? 500 : 1200);
        return same("addNode", run, call, () -> x.addNode(parent, length, looseness, draw, setting),
            () -> model.addNode(parent, length, looseness, draw, setting));
    }

    private boolean setDraw(int run, int call) {
        int node = someNode();
        int draw = someDraw();
        int setting = within(0, random.nextBoolean() ? 500 : 1200);
        return same("setDraw", run, call, () -> x.setDraw(node, draw, setting),
            () -> model.setDraw(node, draw, setting));
    }

    private boolean setLeak(int run, int call) {
        int node = someNode();
        int leak = random.nextInt(4) == 0 ? 0 : within(0, 100);
        return same("setLeak", run, call, () -> x.setLeak(node, leak), () -> model.setLeak(node, leak));
    }

    private boolean setTemperatures(int run, int call) {
        int supply = within(400, 1200);
        int ground = within(-200, 300);
        return same("setTemperatures", run, call, () -> x.setTemperatures(supply, ground),
            () -> model.setTemperatures(supply, ground));
    }

    private boolean addBoiler(int run, int call) {
        int most = random.nextInt(3) == 0 ? 9999999 : 400000;
        int capacity = within(1, most);
        int least = within(0, Math.max(0, Math.min(capacity, most)));
        int cost = within(0, 99);
        return same("addBoiler", run, call, () -> x.addBoiler(capacity, least, cost),
            () -> model.addBoiler(capacity, least, cost));
    }

    private boolean setCost(int run, int call) {
        int boiler = within(0, Math.max(0, model.value(6) - 1));
        int cost = random.nextBoolean() ? within(0, 3) : within(0, 99);
        return same("setCost", run, call, () -> x.setCost(boiler, cost), () -> model.setCost(boiler, cost));
    }

    private boolean setTariff(int run, int call) {
        int price = within(0, 999);
        int mark = within(0, 1200);
        int bonus = within(0, 99);
        return same("setTariff", run, call, () -> x.setTariff(price, mark, bonus),
            () -> model.setTariff(price, mark, bonus));
    }

    private boolean pass(int run, int call) {
        int hours = within(1, random.nextInt(8) == 0 ? 100 : 5);
        return same("pass", run, call, () -> x.pass(hours), () -> model.pass(hours));
    }

    private boolean setMeter(int run, int call) {
        int node = someNode();
        boolean meter = random.nextBoolean();
        return same("setMeter", run, call, () -> x.setMeter(node, meter), () -> model.setMeter(node, meter));
    }

    private boolean supplyFor(int run, int call) {
        int node = someNode();
        int wanted = within(-200, 1200);
        return same("supplyFor", run, call, () -> x.supplyFor(node, wanted), () -> model.supplyFor(node, wanted));
    }

    private boolean value(int run, int call) {
        int what = within(0, 14);
        int heat = within(0, 2);
        int boiler = within(0, 3);
        int fact = within(0, 4);
        return same("value", run, call, () -> x.value(what), () -> model.value(what))
            && same("sum", run, call, () -> x.sum(heat), () -> model.sum(heat))
            && same("boiler", run, call, () -> x.boiler(boiler, fact), () -> model.boiler(boiler, fact));
    }

    private boolean aboutNode(int run, int call) {
        int node = someNode();
        int what = within(0, 11);
        int heat = within(0, 5);
        return same("node", run, call, () -> x.node(node, what), () -> model.node(node, what))
            && same("heat", run, call, () -> x.heat(node, heat), () -> model.heat(node, heat))
            && same("balance", run, call, () -> x.balance(node), () -> model.balance(node))
            && same("region", run, call, () -> x.region(node), () -> model.region(node))
            && same("meterOf", run, call, () -> x.meterOf(node), () -> model.meterOf(node))
            && same("nextMeter", run, call, () -> x.nextMeter(node), () -> model.nextMeter(node))
            && same("saves", run, call, () -> x.saves(node), () -> model.saves(node));
    }

    private boolean text(int run, int call) {
        boolean good = random.nextInt(6) == 0 || same("clearText", run, call, x::clearText, model::clearText);
        String text = someText();
        for (int i = 0; i < text.length() && good; i++) {
            int value = random.nextInt(400) == 0 ? within(0, 127) : text.charAt(i);
            good = same("append", run, call, () -> x.append(value), () -> model.append(value));
        }
        return good && same("parse", run, call, x::parse, model::parse);
    }

    private String someText() {
        StringBuilder text = new StringBuilder();
        boolean small = random.nextBoolean();
        int nodes = random.nextInt(17);
        for (int n = 1; n <= nodes; n++) {
            number(text, random.nextInt(n), 2, ',');
            number(text, small ? 1 + random.nextInt(9) : within(1, 500), 3, ',');
            number(text, small ? random.nextInt(10) : someLooseness(), 2, ',');
            number(text, small ? random.nextInt(10) : someDraw(), 3, ',');
            number(text, small ? random.nextInt(10) : within(0, 1200), 4, ';');
        }
        if (random.nextInt(3) == 0 && text.length() > 0) {
            spoil(text);
        }
        return text.toString();
    }

    private void number(StringBuilder text, int value, int digits, char end) {
        String written = Integer.toString(value);
        if (random.nextInt(30) == 0 && written.length() < digits) {
            text.append('0');
        }
        text.append(written).append(end);
    }

    private void spoil(StringBuilder text) {
        int at = random.nextInt(text.length());
        String bytes = "0123456789,; x\0";
        char c = bytes.charAt(random.nextInt(bytes.length()));
        switch (random.nextInt(4)) {
            case 0: text.setCharAt(at, c); break;
            case 1: text.insert(at, c); break;
            case 2: text.deleteCharAt(at); break;
            default: text.setLength(at); break;
        }
    }

    /** Answers false when the run has come to its end, too. */
    private boolean same(String what, int run, int call, LongCall mine, LongCall due) {
        if (calls >= CALLS) {
            return false;
        }
        calls++;
        Object got = outcome(mine);
        Object want = outcome(due);
        boolean equal = got.equals(want);
        if (!equal) {
            System.out.println("got " + got + ", due is " + want);
        }
        Checks.holds("run " + run + ", call " + call + ", " + what, equal);
        return equal;
    }

    interface LongCall {
        Number run();
    }

    private static Object outcome(LongCall call) {
        try {
            return call.run();
        } catch (RuntimeException e) {
            return e.getClass().getName();
        }
    }
}
