/** Promises 27 to 29: the whole. */
public final class WholeTest {
    private static final Check CHECK = new Check();

    public static void main(String[] args) {
        told();
        undo();
        undoOfStocks();
        undoOfEachChange();
        eightStates();
        refusedCallsRecordNothing();
        digest();
        CHECK.end();
    }

    private static void due(String call, long got, long want) {
        CHECK.due(call, got, want);
    }

    /** Promise 27. */
    private static void told() {
        EscapeLights x = new EscapeLights();
        x.add(10, 0, 0, 0);
        x.add(10, 0, 0, 0);
        x.add(90, 0, 1, 0);
        x.route(8, 12);
        x.route(8, 15);
        x.route(86, 94);
        x.setNeed(70);
        x.setStock(0, 3);
        x.setStock(1, 4);
        x.setStock(2, 5);
        x.maintain(2, true);
        x.pass(50);
        x.test(3, true);
        x.test(1, true);
        x.type('p');
        x.type('q');
        int[] want = {3, 0, 3, 0, 70, 50, 3, 4, 5, 1, 2, 1, 2, 8};
        for (int what = 0; what <= 13; what++) {
            due("told(" + what + ")", x.told(what), want[what]);
        }
        due("told(-1)", x.told(-1), -1);
        due("told(14)", x.told(14), -1);
        x.swap(2, 0);
        due("told(1)", x.told(1), 1);
        due("told(3)", x.told(3), 1);
        due("told(6)", x.told(6), 2);
        due("told(9)", x.told(9), 0);
        x.pass(24);
        due("told(1)", x.told(1), 3);
        due("told(3)", x.told(3), 2);
    }

    /** Promise 28. */
    private static void undo() {
        EscapeLights x = new EscapeLights();
        due("undo() of nothing", x.undo(), EscapeLights.STATE);
        x.add(10, 1, 1, 1);
        x.route(3, 14);
        x.type('x');
        x.test(1, true);
        x.type('y');
        due("undo()", x.undo(), 2);
        due("the text stays", x.told(12), 2);
        due("no test passed", x.told(10), 0);
        due("no result", x.light(0, 11), -9);
        due("the charge", x.light(0, 7), 2688);
        due("undo()", x.undo(), 1);
        due("told(2)", x.told(2), 0);
        due("undo()", x.undo(), 0);
        due("told(0)", x.told(0), 0);
        due("undo()", x.undo(), -2);
        due("undo() is no change", x.told(13), 0);
    }

    private static void undoOfStocks() {
        EscapeLights x = new EscapeLights();
        for (int lamp = 0; lamp <= 2; lamp++) {
            x.setStock(lamp, 10 + lamp);
            x.setStock(lamp, 20 + lamp);
            x.undo();
            due("the stock of " + lamp, x.told(6 + lamp), 10 + lamp);
        }
    }

    private static void undoOfEachChange() {
        EscapeLights x = new EscapeLights();
        x.add(10, 0, 0, 0);
        x.add(12, 1, 1, 1);
        x.route(8, 12);
        x.route(3, 4);
        x.setStock(1, 4);
        Check.write(x, "p1c0b0l0;r5-6;");
        x.pass(3);
        long before = x.digest();
        int[] answers = {101, 2, 1, 0, 2, 1, 60, 4, 3, 2, 1000, 2, 1, 0};
        for (int k = 0; k < answers.length; k++) {
            due("change " + k, change(x, k), answers[k]);
            due("undo() of change " + k, x.undo(), 6);
            due("digest() after change " + k, x.digest() - before, 0);
        }
    }

    private static int change(EscapeLights x, int which) {
        switch (which) {
            case 0: return x.load();
            case 1: return x.add(0, 0, 0, 0);
            case 2: return x.drop(0);
            case 3: return x.maintain(0, true);
            case 4: return x.route(0, 0);
            case 5: return x.dropRoute(0);
            case 6: return x.setNeed(50);
            case 7: return x.setStock(1, 9);
            case 8: return x.swap(0, 1);
            case 9: return x.swapAll(9000);
            case 10: return x.renew(0);
            case 11: return x.pass(1999);
            case 12: return x.test(1, true);
            default: return x.carryOut();
        }
    }

    private static void eightStates() {
        EscapeLights x = new EscapeLights();
        for (int need = 1; need <= 20; need++) {
            x.setNeed(need);
            due("told(13)", x.told(13), Math.min(need, 8));
        }
        for (int left = 7; left >= 4; left--) {
            due("undo()", x.undo(), left);
            due("told(4)", x.told(4), 12 + left);
        }
        for (int need = 101; need <= 105; need++) {
            x.setNeed(need);
        }
        due("told(13)", x.told(13), 8);
        int[] needs = {104, 103, 102, 101, 16, 15, 14, 13};
        for (int k = 0; k < 8; k++) {
            due("undo()", x.undo(), 7 - k);
            due("told(4)", x.told(4), needs[k]);
        }
        due("undo()", x.undo(), -2);
        due("told(4)", x.told(4), 13);
    }

    private static void refusedCallsRecordNothing() {
        EscapeLights x = new EscapeLights();
        x.add(10, 0, 0, 0);
        x.route(8, 12);
        x.type('!');
        long before = x.digest();
        int[] answers = {x.load(), x.add(0, 0, 0, 9), x.drop(9), x.maintain(9, true), x.route(2, 1), x.dropRoute(9),
            x.setNeed(0), x.setStock(9, 9), x.swap(0, 0), x.swap(0, 9), x.swapAll(0), x.renew(9), x.pass(0),
            x.test(1, false), x.test(0, true), x.carryOut(), x.ifLamp(9, 9), x.bestSwap(9), x.allowed(9), x.day(-1)};
        int[] want = {-10, -1, -1, -1, -1, -1, -1, -1, -2, -1, -1, -1, -1, -2, -1, -2, -1, -1, -1, -1};
        for (int k = 0; k < want.length; k++) {
            due("refused call " + k, answers[k], want[k]);
        }
        due("digest()", x.digest() - before, 0);
    }

    /** Promise 29: with a new object each time, as each question that is asked again is a call. */
    private static void digest() {
        for (int steps = 0; steps <= 4; steps++) {
            EscapeLights x = afterSteps(steps);
            due("digest() after step " + steps, x.digest(), digestOf(x));
        }
        EscapeLights y = afterSteps(4);
        y.digest();
        due("digest() is no change", y.told(13), 8);
    }

    /** A new object, a plan, a text, no plan any more, a test. */
    private static EscapeLights afterSteps(int steps) {
        EscapeLights x = new EscapeLights();
        if (steps > 0) {
            x.add(10, 0, 0, 0);
            x.add(10, 1, 1, 1);
            x.add(50, 2, 2, 2);
            x.route(8, 12);
            x.setStock(0, 1);
            x.setStock(1, 2);
        }
        if (steps > 1) {
            x.type('p');
        }
        if (steps > 2) {
            x.route(50, 50);
        }
        if (steps > 3) {
            x.test(5, true);
        }
        return x;
    }

    private static long digestOf(EscapeLights x) {
        long[] h = {18752};
        for (int what = 0; what <= 13; what++) {
            put(h, x.told(what));
        }
        for (int i = 0; i < x.told(0); i++) {
            for (int what = 0; what <= 12; what++) {
                put(h, x.light(i, what));
            }
        }
        for (int r = 0; r < x.told(2); r++) {
            for (int what = 0; what <= 6; what++) {
                put(h, x.routeAt(r, what));
            }
        }
        put(h, x.days());
        for (int day = 0; day < x.days(); day++) {
            put(h, x.day(day));
        }
        for (int k = 0; k <= 40; k++) {
            put(h, x.reaching(5 * k, false));
            put(h, x.reaching(5 * k, true));
        }
        return h[0];
    }

    private static void put(long[] h, long v) {
        h[0] = 31 * h[0] + v;
    }
}
