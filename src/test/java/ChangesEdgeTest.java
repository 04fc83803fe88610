/** CHANGES, and promise 28. */
public final class ChangesEdgeTest {
    private static final Check CHECK = new Check();

    public static void main(String[] args) {
        eachChangeIsRecorded();
        eachChangeIsRecordedAsTheNinth();
        asBefore();
        asBeforeOfLights();
        lightsComeBack();
        resultsComeBack();
        routesComeBack();
        needComesBack();
        hoursComeBack();
        stockComesBack();
        countsComeBack();
        eightAreRemembered();
        theOldestIsDropped();
        theLatestIsRestored();
        theRingTurns();
        nothingIsRemembered();
        theTextStays();
        undoIsNoChange();
        refusedCallsAreNotRecorded();
        CHECK.end();
    }

    private static void due(String call, long got, long want) {
        CHECK.due(call, got, want);
    }

    /** 3 lights, 2 routes, 7 states, a plan of two days. */
    private static void sevenStates(EscapeLights x) {
        Check.write(x, "p10c0b0l0;p12c1b1l1m;p11c2b3l2;r8-14;r6-13;");
        x.load();
        x.setStock(0, 1);
        x.setStock(2, 99);
        x.setNeed(61);
        x.test(5, true);
        x.pass(40);
        x.test(2, true);
    }

    private static void eightStates(EscapeLights x) {
        sevenStates(x);
        x.setNeed(61);
    }

    private static void eachChangeIsRecorded() {
        CHECK.sentence("All methods that are marked as changes record the state before it");
        changes(new Twins(CHECK, ChangesEdgeTest::sevenStates));
    }

    private static void eachChangeIsRecordedAsTheNinth() {
        CHECK.sentence("when one more is recorded, the oldest one is dropped: by each change");
        changes(new Twins(CHECK, ChangesEdgeTest::eightStates));
    }

    private static void changes(Twins past) {
        past.recorded("load()", 203, x -> x.load());
        past.recorded("add(0, 0, 0, 0)", 3, x -> x.add(0, 0, 0, 0));
        past.recorded("drop(0)", 2, x -> x.drop(0));
        past.recorded("drop(2)", 2, x -> x.drop(2));
        past.recorded("maintain(0, true)", 0, x -> x.maintain(0, true));
        past.recorded("maintain(1, false)", 1, x -> x.maintain(1, false));
        past.recorded("route(0, 0)", 2, x -> x.route(0, 0));
        past.recorded("dropRoute(0)", 1, x -> x.dropRoute(0));
        past.recorded("dropRoute(1)", 1, x -> x.dropRoute(1));
        past.recorded("setNeed(180)", 61, x -> x.setNeed(180));
        past.recorded("setStock(0, 0)", 1, x -> x.setStock(0, 0));
        past.recorded("setStock(1, 99)", 0, x -> x.setStock(1, 99));
        past.recorded("swap(1, 2)", 98, x -> x.swap(1, 2));
        past.recorded("swapAll(9000)", 3, x -> x.swapAll(9000));
        past.recorded("renew(0)", 995, x -> x.renew(0));
        past.recorded("pass(1)", 2, x -> x.pass(1));
        past.recorded("pass(2000)", 2, x -> x.pass(2000));
        past.recorded("test(7, true)", 2, x -> x.test(7, true));
        past.recorded("test(2, false)", 0, x -> x.test(2, false));
        past.recorded("carryOut()", 0, x -> x.carryOut());
    }

    private static void asBefore() {
        CHECK.sentence("record the state, also if everything is as before");
        Twins seven = new Twins(CHECK, ChangesEdgeTest::sevenStates);
        seven.recorded("setNeed(61)", 61, x -> x.setNeed(61));
        seven.recorded("setStock(0, 1)", 1, x -> x.setStock(0, 1));
        seven.recorded("setStock(1, 0)", 0, x -> x.setStock(1, 0));
        seven.recorded("maintain(0, false)", 0, x -> x.maintain(0, false));
        seven.recorded("maintain(1, true)", 1, x -> x.maintain(1, true));
        seven.recorded("swapAll(1)", 0, x -> x.swapAll(1));
        Twins made = new Twins(CHECK, x -> { });
        made.recorded("load() of the empty text", 0, x -> x.load());
        made.recorded("swapAll(9000) without lights", 0, x -> x.swapAll(9000));
        made.recorded("setNeed(60)", 60, x -> x.setNeed(60));
        made.recorded("setStock(2, 0)", 0, x -> x.setStock(2, 0));
        made.recorded("pass(1) without lights", 0, x -> x.pass(1));
    }

    private static void asBeforeOfLights() {
        CHECK.sentence("record the state, also if everything is as before: a light");
        Twins loaded = new Twins(CHECK, x -> {
            Check.write(x, "p1c0b0l0m;r1-1;");
            x.load();
        });
        loaded.recorded("load() of the same building", 101, x -> x.load());
        Twins renewed = new Twins(CHECK, x -> {
            x.add(1, 0, 0, 0);
            x.renew(0);
            x.setStock(0, 99);
        });
        renewed.recorded("renew(0) of a new battery", 1000, x -> x.renew(0));
        renewed.recorded("swap(0, 0) of a new lamp", 98, x -> x.swap(0, 0));
        Twins worn = new Twins(CHECK, x -> {
            x.add(1, 0, 0, 2);
            Edge.test(x, 1, 210);
        });
        worn.recorded("test(1, true) of a battery that is worn out", 0, x -> x.test(1, true));
        worn.recorded("swapAll(1) of a lamp that is not burnt out", 0, x -> x.swapAll(1));
    }

    private static void lightsComeBack() {
        CHECK.sentence("record the state: lights");
        EscapeLights x = new EscapeLights();
        x.add(10, 3, 1, 2);
        x.maintain(0, true);
        x.setStock(0, 1);
        x.renew(0);
        x.pass(3);
        x.drop(0);
        due("undo()", x.undo(), 5);
        int[] want = {10, 3, 1, 2, 1, 1000, 112, 336, 9000 - 180, 14, 0, -9, 0};
        for (int what = 0; what <= 12; what++) {
            due("light(0, " + what + ")", x.light(0, what), want[what]);
        }
        x.swap(0, 0);
        x.maintain(0, false);
        x.test(1, true);
        for (int k = 0; k < 3; k++) {
            x.undo();
        }
        for (int what = 0; what <= 12; what++) {
            due("light(0, " + what + ") again", x.light(0, what), want[what]);
        }
        due("undo()", x.undo(), 4);
        due("the charge behind renew()", x.light(0, 7), 0);
        due("undo()", x.undo(), 3);
        due("the charge before it", x.light(0, 7), 2688);
        due("undo()", x.undo(), 2);
        due("light(0, 4)", x.light(0, 4), 1);
        due("undo()", x.undo(), 1);
        due("light(0, 4)", x.light(0, 4), 0);
        due("undo()", x.undo(), 0);
        due("light(0, 0)", x.light(0, 0), -1);
        due("told(0)", x.told(0), 0);
    }

    private static void resultsComeBack() {
        CHECK.sentence("record the state: lights with their results");
        EscapeLights x = Edge.lightsAt(10, 10);
        x.test(1, true);
        x.test(3, true);
        due("light(0, 11)", x.light(0, 11), 15);
        due("light(1, 11)", x.light(1, 11), 60);
        x.undo();
        due("light(0, 11)", x.light(0, 11), 60);
        due("light(1, 11)", x.light(1, 11), -9);
        x.undo();
        due("light(0, 11)", x.light(0, 11), -9);
    }

    private static void routesComeBack() {
        CHECK.sentence("record the state: routes");
        EscapeLights x = new EscapeLights();
        x.route(1, 2);
        x.route(3, 200);
        x.dropRoute(0);
        x.undo();
        due("told(2)", x.told(2), 2);
        due("routeAt(0, 0)", x.routeAt(0, 0), 1);
        due("routeAt(0, 1)", x.routeAt(0, 1), 2);
        due("routeAt(1, 0)", x.routeAt(1, 0), 3);
        due("routeAt(1, 1)", x.routeAt(1, 1), 200);
        x.undo();
        due("told(2)", x.told(2), 1);
        due("routeAt(1, 0)", x.routeAt(1, 0), -1);
        x.undo();
        due("told(2)", x.told(2), 0);
        due("routeAt(0, 0)", x.routeAt(0, 0), -1);
    }

    private static void needComesBack() {
        CHECK.sentence("record the state: need");
        EscapeLights x = Edge.lightsAt(10);
        x.setNeed(76);
        due("told(1)", x.told(1), 0);
        x.undo();
        due("told(4)", x.told(4), 60);
        due("told(1)", x.told(1), 1);
        due("setNeed(1)", x.setNeed(1), 60);
    }

    private static void hoursComeBack() {
        CHECK.sentence("record the state: hours");
        EscapeLights x = Edge.lightsAt(10);
        x.pass(999);
        x.pass(1);
        due("light(0, 5)", x.light(0, 5), 999);
        x.undo();
        due("told(5)", x.told(5), 999);
        due("light(0, 5)", x.light(0, 5), 1000);
        x.undo();
        due("told(5)", x.told(5), 0);
        x.pass(1);
        due("told(5)", x.told(5), 1);
        due("light(0, 5)", x.light(0, 5), 1000);
    }

    private static void stockComesBack() {
        CHECK.sentence("record the state: stock");
        EscapeLights x = Edge.lightsAt(10);
        for (int lamp = 0; lamp <= 2; lamp++) {
            x.setStock(lamp, 1);
            x.swap(0, lamp);
            due("told(" + (6 + lamp) + ")", x.told(6 + lamp), 0);
            x.undo();
            due("told(" + (6 + lamp) + ")", x.told(6 + lamp), 1);
            due("swap(0, " + lamp + ")", x.swap(0, lamp), 0);
            x.undo();
            x.undo();
            due("told(" + (6 + lamp) + ")", x.told(6 + lamp), 0);
            due("swap(0, " + lamp + ")", x.swap(0, lamp), -2);
        }
    }

    private static void countsComeBack() {
        CHECK.sentence("record the state: how many tests were passed and not");
        EscapeLights x = Edge.lightsAt(10, 10);
        x.test(3, true);
        x.test(1, true);
        due("told(10)", x.told(10), 2);
        due("told(11)", x.told(11), 1);
        x.undo();
        due("told(10)", x.told(10), 2);
        due("told(11)", x.told(11), 0);
        x.undo();
        due("told(10)", x.told(10), 0);
        x.carryOut();
        due("told(10)", x.told(10), 2);
        x.undo();
        due("told(10)", x.told(10), 0);
        due("told(11)", x.told(11), 0);
    }

    private static void eightAreRemembered() {
        CHECK.sentence("At most 8 recorded states are remembered");
        EscapeLights x = new EscapeLights();
        for (int n = 1; n <= 12; n++) {
            due("setNeed(" + n + ")", x.setNeed(n), n == 1 ? 60 : n - 1);
            due("told(13) after " + n, x.told(13), n < 8 ? n : 8);
        }
        for (int left = 7; left >= 0; left--) {
            due("undo()", x.undo(), left);
            due("told(13)", x.told(13), left);
        }
        due("undo() of a ninth", x.undo(), -2);
    }

    private static void theOldestIsDropped() {
        CHECK.sentence("when one more is recorded, the oldest one is dropped");
        EscapeLights eight = new EscapeLights();
        EscapeLights nine = new EscapeLights();
        for (int n = 1; n <= 8; n++) {
            eight.setNeed(n);
            nine.setNeed(n);
        }
        nine.setNeed(9);
        for (int k = 0; k < 8; k++) {
            eight.undo();
            nine.undo();
        }
        due("told(4) after 8 changes and 8 undo()", eight.told(4), 60);
        due("told(4) after 9 changes and 8 undo()", nine.told(4), 1);
        due("undo()", eight.undo(), -2);
        due("undo()", nine.undo(), -2);
    }

    private static void theLatestIsRestored() {
        CHECK.sentence("undo() restores the latest one and removes it");
        EscapeLights x = new EscapeLights();
        x.setNeed(1);
        x.setNeed(2);
        x.setNeed(3);
        due("undo()", x.undo(), 2);
        due("told(4)", x.told(4), 2);
        due("undo()", x.undo(), 1);
        due("told(4)", x.told(4), 1);
        x.setNeed(9);
        due("undo()", x.undo(), 1);
        due("told(4)", x.told(4), 1);
        due("undo()", x.undo(), 0);
        due("told(4)", x.told(4), 60);
    }

    /** Eight places are used again and again, from each of them on. */
    private static void theRingTurns() {
        CHECK.sentence("undo() restores the latest one and removes it: after any number of changes");
        for (int changes = 1; changes <= 25; changes++) {
            EscapeLights x = new EscapeLights();
            for (int n = 1; n <= changes; n++) {
                x.setNeed(100 + n);
            }
            int states = Math.min(changes, 8);
            for (int k = 1; k <= states; k++) {
                due("undo()", x.undo(), states - k);
                due("told(4)", x.told(4), changes == k ? 60 : 100 + changes - k);
            }
            due("undo()", x.undo(), -2);
            x.setStock(0, 1);
            due("undo()", x.undo(), 0);
            due("told(6)", x.told(6), 0);
        }
    }

    private static void nothingIsRemembered() {
        CHECK.sentence("Promise 28: STATE if there is none");
        EscapeLights x = new EscapeLights();
        due("undo()", x.undo(), -2);
        due("undo()", x.undo(), -2);
        x.type('p');
        x.load();
        due("undo() after a load() with a fault", x.undo(), -2);
        x.clear();
        due("undo() after clear()", x.undo(), -2);
        x.load();
        due("undo() after a load()", x.undo(), 0);
        due("undo()", x.undo(), -2);
        due("told(13)", x.told(13), 0);
        due("told(4)", x.told(4), 60);
    }

    private static void theTextStays() {
        CHECK.sentence("Promise 28: The text buffer stays");
        EscapeLights x = new EscapeLights();
        x.setNeed(70);
        Check.write(x, "r1-2;");
        x.undo();
        due("told(12)", x.told(12), 5);
        due("load()", x.load(), 100);
        x.clear();
        x.undo();
        due("told(12)", x.told(12), 0);
        due("told(2)", x.told(2), 0);
        due("load()", x.load(), 0);
        for (int n = 1; n <= 80; n++) {
            x.type('r');
        }
        due("undo()", x.undo(), 0);
        due("told(12)", x.told(12), 80);
        due("type(33)", x.type(33), -3);
        due("clear()", x.clear(), 80);
    }

    private static void undoIsNoChange() {
        CHECK.sentence("undo() removes the latest state: the one before undo() is not recorded");
        EscapeLights x = new EscapeLights();
        x.setNeed(1);
        x.setNeed(2);
        x.undo();
        x.undo();
        due("told(13)", x.told(13), 0);
        due("told(4)", x.told(4), 60);
        due("undo()", x.undo(), -2);
        due("told(4)", x.told(4), 60);
    }

    private static void refusedCallsAreNotRecorded() {
        CHECK.sentence("record the state if they return no error code and no number of -10 or less");
        EscapeLights x = Edge.lightsAt(10);
        x.route(10, 10);
        x.type('p');
        long[] answers = {x.load(), x.add(201, 0, 0, 0), x.drop(1), x.maintain(1, true), x.route(1, 0), x.dropRoute(1),
            x.setNeed(0), x.setStock(0, 100), x.swap(1, 0), x.swap(0, 0), x.swapAll(0), x.renew(1), x.pass(0),
            x.test(0, true), x.test(1, false), x.carryOut(), x.told(13), x.undo(), x.told(2), x.told(0)};
        long[] want = {-11, -1, -1, -1, -1, -1, -1, -1, -1, -2, -1, -1, -1, -1, -2, -2, 2, 1, 0, 1};
        for (int k = 0; k < want.length; k++) {
            due("call " + k, answers[k], want[k]);
        }
    }
}
