import java.util.LinkedHashMap;
import java.util.Map;
import java.util.function.ToLongFunction;

/** RETURN VALUES, and the sentence about 512 calls. */
public final class ReturnsEdgeTest {
    private static final Check CHECK = new Check();
    private static final int BAD = -1, STATE = -2, FULL = -3, NONE = -9;
    /** 80 bytes: 8 lights and a route. */
    private static final String FULL_TEXT = "p1c0b0l0;p2c0b0l0;p3c0b0l0;p4c0b0l0;p5c0b0l0;p6c0b0l0;p7c0b0l0;p8c0b0l0;"
        + "r10-100;";

    public static void main(String[] args) {
        codes();
        orderBeforeFull();
        orderBeforeState();
        orderOfThree();
        refusedArgumentsChangeNothing();
        refusedSetsChangeNothing();
        fullChangesNothing();
        stateChangesNothing();
        faultChangesNothing();
        questionsChangeNothing();
        noneOnlyWithoutError();
        truncated();
        call512();
        CHECK.end();
    }

    private static void due(String call, long got, long want) {
        CHECK.due(call, got, want);
    }

    /** 10 lights, 6 routes, 80 bytes, 8 states, no stock, 100000 hours, a plan of two days. */
    private static void full(EscapeLights x) {
        Edge.pass(x, 100000);
        for (int i = 0; i < 10; i++) {
            x.add(100 + i / 2, i % 4, i % 4, i % 3);
        }
        for (int r = 0; r < 6; r++) {
            x.route(100 + r % 3, 102 + r % 3);
        }
        Check.write(x, FULL_TEXT);
    }

    /** 3 lights, 2 routes, 7 states, a plan of two days: light 0, then lights 1 and 2. */
    private static void planned(EscapeLights x) {
        Check.write(x, "p10c0b0l0;p12c1b1l1m;p11c2b3l2;r8-14;r6-13;");
        x.load();
        x.setStock(0, 1);
        x.setStock(2, 99);
        x.setNeed(61);
        x.test(5, true);
        x.pass(40);
        x.test(2, true);
    }

    /** As planned, but nothing but light 0 reaches places 8 to 14. */
    private static void noPlan(EscapeLights x) {
        planned(x);
        x.drop(2);
    }

    private static void codes() {
        CHECK.sentence("Error codes: BAD (-1), STATE (-2), FULL (-3); NONE (-9)");
        due("BAD", EscapeLights.BAD, BAD);
        due("STATE", EscapeLights.STATE, STATE);
        due("FULL", EscapeLights.FULL, FULL);
        due("NONE", EscapeLights.NONE, NONE);
    }

    private static void orderBeforeFull() {
        CHECK.sentence("If several of them apply to a call, the first one in this order is returned: BAD before FULL");
        EscapeLights x = new EscapeLights();
        full(x);
        due("type(32)", x.type(32), BAD);
        due("type(127)", x.type(127), BAD);
        due("type(33)", x.type(33), FULL);
        due("add(201, 0, 0, 0)", x.add(201, 0, 0, 0), BAD);
        due("add(0, 4, 0, 0)", x.add(0, 4, 0, 0), BAD);
        due("add(0, 0, 4, 0)", x.add(0, 0, 4, 0), BAD);
        due("add(0, 0, 0, 3)", x.add(0, 0, 0, 3), BAD);
        due("add(0, 0, 0, 0)", x.add(0, 0, 0, 0), FULL);
        due("route(-1, 0)", x.route(-1, 0), BAD);
        due("route(0, 201)", x.route(0, 201), BAD);
        due("route(1, 0)", x.route(1, 0), BAD);
        due("route(0, 0)", x.route(0, 0), FULL);
        due("pass(0)", x.pass(0), BAD);
        due("pass(2001)", x.pass(2001), BAD);
        due("pass(1)", x.pass(1), FULL);
    }

    private static void orderBeforeState() {
        CHECK.sentence("If several of them apply to a call, the first one in this order is returned: BAD before STATE");
        EscapeLights x = new EscapeLights();
        noPlan(x);
        due("swap(2, 1)", x.swap(2, 1), BAD);
        due("swap(-1, 1)", x.swap(-1, 1), BAD);
        due("swap(0, 3)", x.swap(0, 3), BAD);
        due("swap(0, 1)", x.swap(0, 1), STATE);
        due("test(5, false)", x.test(5, false), BAD);
        due("test(-1, false)", x.test(-1, false), BAD);
        due("test(0, false)", x.test(0, false), BAD);
        due("test(1, false)", x.test(1, false), STATE);
    }

    private static void orderOfThree() {
        CHECK.sentence("If several of them apply to a call, the first one in this order is returned: carryOut");
        EscapeLights x = Edge.lightsAt(10);
        x.route(10, 10);
        Edge.pass(x, 100000);
        due("carryOut() without a plan, at the last hour", x.carryOut(), STATE);
        x.route(9, 9);
        x.add(10, 0, 0, 0);
        due("carryOut() with a plan, at the last hour", x.carryOut(), FULL);
        x.drop(0);
        x.drop(0);
        due("carryOut() without lights, at the last hour", x.carryOut(), BAD);
    }

    private static void refusedArgumentsChangeNothing() {
        CHECK.sentence("A call that returns an error code changes nothing: an argument is out of range");
        Twins full = new Twins(CHECK, ReturnsEdgeTest::full);
        Twins planned = new Twins(CHECK, ReturnsEdgeTest::planned);
        for (int n : Edge.outside(33, 126)) {
            planned.unchanged("type(" + n + ")", BAD, x -> x.type(n));
            full.unchanged("type(" + n + ")", BAD, x -> x.type(n));
        }
        for (int n : Edge.outside(0, 200)) {
            planned.unchanged("add(" + n + ", 0, 0, 0)", BAD, x -> x.add(n, 0, 0, 0));
            full.unchanged("add(" + n + ", 0, 0, 0)", BAD, x -> x.add(n, 0, 0, 0));
            planned.unchanged("route(" + n + ", 200)", BAD, x -> x.route(n, 200));
            planned.unchanged("route(0, " + n + ")", BAD, x -> x.route(0, n));
            planned.unchanged("route(" + n + ", " + n + ")", BAD, x -> x.route(n, n));
            planned.unchanged("reaching(" + n + ", true)", BAD, x -> x.reaching(n, true));
            planned.unchanged("reaching(" + n + ", false)", BAD, x -> x.reaching(n, false));
        }
        planned.unchanged("route(1, 0)", BAD, x -> x.route(1, 0));
        planned.unchanged("route(200, 199)", BAD, x -> x.route(200, 199));
        for (int n : Edge.outside(0, 3)) {
            planned.unchanged("add(0, " + n + ", 0, 0)", BAD, x -> x.add(0, n, 0, 0));
            planned.unchanged("add(0, 0, " + n + ", 0)", BAD, x -> x.add(0, 0, n, 0));
        }
        refusedKinds(planned);
        refusedMinutesAndHours(planned);
        refusedNumbers(planned, 3, 2);
        refusedNumbers(full, 10, 6);
    }

    private static void refusedKinds(Twins planned) {
        for (int n : Edge.outside(0, 2)) {
            planned.unchanged("add(0, 0, 0, " + n + ")", BAD, x -> x.add(0, 0, 0, n));
            planned.unchanged("setStock(" + n + ", 1)", BAD, x -> x.setStock(n, 1));
            planned.unchanged("swap(0, " + n + ")", BAD, x -> x.swap(0, n));
            planned.unchanged("ifLamp(0, " + n + ")", BAD, x -> x.ifLamp(0, n));
            planned.unchanged("bestSwap(" + n + ")", BAD, x -> x.bestSwap(n));
        }
    }

    private static void refusedMinutesAndHours(Twins planned) {
        for (int n : Edge.outside(1, 180)) {
            planned.unchanged("setNeed(" + n + ")", BAD, x -> x.setNeed(n));
        }
        for (int n : Edge.outside(0, 99)) {
            planned.unchanged("setStock(0, " + n + ")", BAD, x -> x.setStock(0, n));
            planned.unchanged("setStock(2, " + n + ")", BAD, x -> x.setStock(2, n));
        }
        for (int n : Edge.outside(1, 9000)) {
            planned.unchanged("swapAll(" + n + ")", BAD, x -> x.swapAll(n));
        }
        for (int n : Edge.outside(1, 2000)) {
            planned.unchanged("pass(" + n + ")", BAD, x -> x.pass(n));
        }
        for (int n : Edge.outside(0, 12)) {
            planned.unchanged("light(0, " + n + ")", BAD, x -> x.light(0, n));
        }
        for (int n : Edge.outside(0, 6)) {
            planned.unchanged("routeAt(0, " + n + ")", BAD, x -> x.routeAt(0, n));
        }
        for (int n : Edge.outside(0, 13)) {
            planned.unchanged("told(" + n + ")", BAD, x -> x.told(n));
        }
        for (int n : Edge.outside(0, Edge.MAX)) {
            planned.unchanged("day(" + n + ")", BAD, x -> x.day(n));
        }
    }

    private static void refusedNumbers(Twins past, int lights, int routes) {
        for (int n : Edge.noNumber(lights)) {
            past.unchanged("drop(" + n + ")", BAD, x -> x.drop(n));
            past.unchanged("maintain(" + n + ", true)", BAD, x -> x.maintain(n, true));
            past.unchanged("maintain(" + n + ", false)", BAD, x -> x.maintain(n, false));
            past.unchanged("light(" + n + ", 0)", BAD, x -> x.light(n, 0));
            past.unchanged("light(" + n + ", 12)", BAD, x -> x.light(n, 12));
            past.unchanged("swap(" + n + ", 0)", BAD, x -> x.swap(n, 0));
            past.unchanged("renew(" + n + ")", BAD, x -> x.renew(n));
            past.unchanged("ifLamp(" + n + ", 0)", BAD, x -> x.ifLamp(n, 0));
        }
        for (int n : Edge.noNumber(routes)) {
            past.unchanged("dropRoute(" + n + ")", BAD, x -> x.dropRoute(n));
            past.unchanged("routeAt(" + n + ", 0)", BAD, x -> x.routeAt(n, 0));
            past.unchanged("lasts(" + n + ", 1)", BAD, x -> x.lasts(n, 1));
        }
    }

    private static void refusedSetsChangeNothing() {
        CHECK.sentence("A call that returns an error code changes nothing: a light of a set is not there");
        Twins planned = new Twins(CHECK, ReturnsEdgeTest::planned);
        Twins full = new Twins(CHECK, ReturnsEdgeTest::full);
        refusedSets(planned, 3);
        refusedSets(full, 10);
        refusedSets(new Twins(CHECK, x -> x.route(0, 0)), 0);
        planned.unchanged("test(0, true)", BAD, x -> x.test(0, true));
        planned.unchanged("test(0, false)", BAD, x -> x.test(0, false));
    }

    private static void refusedSets(Twins past, int lights) {
        for (int set : Edge.noSet(lights)) {
            past.unchanged("test(" + set + ", true)", BAD, x -> x.test(set, true));
            past.unchanged("test(" + set + ", false)", BAD, x -> x.test(set, false));
            past.unchanged("lasts(0, " + set + ")", BAD, x -> x.lasts(0, set));
            past.unchanged("allowed(" + set + ")", BAD, x -> x.allowed(set));
        }
    }

    private static void fullChangesNothing() {
        CHECK.sentence("A call that returns an error code changes nothing: a limit is reached");
        Twins full = new Twins(CHECK, ReturnsEdgeTest::full);
        full.unchanged("type(33)", FULL, x -> x.type(33));
        full.unchanged("type(126)", FULL, x -> x.type(126));
        full.unchanged("add(0, 0, 0, 0)", FULL, x -> x.add(0, 0, 0, 0));
        full.unchanged("route(0, 200)", FULL, x -> x.route(0, 200));
        full.unchanged("pass(1)", FULL, x -> x.pass(1));
        full.unchanged("pass(2000)", FULL, x -> x.pass(2000));
        full.unchanged("carryOut()", FULL, x -> x.carryOut());
    }

    private static void stateChangesNothing() {
        CHECK.sentence("A call that returns an error code changes nothing: not possible at present");
        Twins full = new Twins(CHECK, ReturnsEdgeTest::full);
        Twins noPlan = new Twins(CHECK, ReturnsEdgeTest::noPlan);
        full.unchanged("swap(0, 0)", STATE, x -> x.swap(0, 0));
        full.unchanged("swap(9, 2)", STATE, x -> x.swap(9, 2));
        full.unchanged("test(1023, false)", STATE, x -> x.test(1023, false));
        noPlan.unchanged("swap(1, 1)", STATE, x -> x.swap(1, 1));
        noPlan.unchanged("test(1, false)", STATE, x -> x.test(1, false));
        noPlan.unchanged("carryOut()", STATE, x -> x.carryOut());
        new Twins(CHECK, x -> x.type('r')).unchanged("undo()", STATE, x -> x.undo());
        new Twins(CHECK, x -> x.route(1, 1)).unchanged("carryOut() without lights", BAD, x -> x.carryOut());
    }

    private static void faultChangesNothing() {
        CHECK.sentence("A call that returns -10 or less changes nothing");
        String[] texts = {"!", "p", "p9c0b0l0;p9c0b0l0", "r1-2;p201c0b0l0;", "r1-1;r1-1;r1-1;r1-1;r1-1;r1-1;r1-1;"};
        int[] faults = {0, 1, 17, 8, 30};
        for (int k = 0; k < texts.length; k++) {
            String text = texts[k];
            Twins planned = new Twins(CHECK, x -> {
                planned(x);
                Check.write(x, text);
            });
            planned.unchanged("load() of " + text, -10 - faults[k], x -> x.load());
            Twins full = new Twins(CHECK, x -> {
                full(x);
                Check.write(x, text);
            });
            full.unchanged("load() of " + text, -10 - faults[k], x -> x.load());
        }
    }

    private static void questionsChangeNothing() {
        CHECK.sentence("All methods that are marked as changes record the state: the others change nothing");
        Map<String, ToLongFunction<EscapeLights>> questions = new LinkedHashMap<>();
        for (int what = 0; what <= 12; what++) {
            int one = what;
            questions.put("light(1, " + what + ")", x -> x.light(1, one));
        }
        for (int what = 0; what <= 13; what++) {
            int one = what;
            questions.put("told(" + what + ")", x -> x.told(one));
        }
        for (int what = 0; what <= 6; what++) {
            int one = what;
            questions.put("routeAt(1, " + what + ")", x -> x.routeAt(1, one));
            questions.put("allowed(" + what + ")", x -> x.allowed(one));
            questions.put("lasts(0, " + what + ")", x -> x.lasts(0, one));
            questions.put("day(" + what + ")", x -> x.day(one));
        }
        for (int lamp = 0; lamp <= 2; lamp++) {
            int one = lamp;
            questions.put("ifLamp(0, " + lamp + ")", x -> x.ifLamp(0, one));
            questions.put("ifLamp(1, " + lamp + ")", x -> x.ifLamp(1, one));
            questions.put("bestSwap(" + lamp + ")", x -> x.bestSwap(one));
        }
        questions.put("reaching(10, false)", x -> x.reaching(10, false));
        questions.put("reaching(10, true)", x -> x.reaching(10, true));
        questions.put("days()", x -> x.days());
        questions.put("digest()", x -> x.digest());
        for (String call : questions.keySet()) {
            ask(call, questions.get(call));
        }
    }

    private static void ask(String call, ToLongFunction<EscapeLights> use) {
        EscapeLights y = new EscapeLights();
        planned(y);
        new Twins(CHECK, ReturnsEdgeTest::planned).unchanged(call, use.applyAsLong(y), use);
        EscapeLights z = new EscapeLights();
        full(z);
        new Twins(CHECK, ReturnsEdgeTest::full).unchanged(call, use.applyAsLong(z), use);
    }

    private static void noneOnlyWithoutError() {
        CHECK.sentence("NONE is returned only if no error code applies");
        EscapeLights x = new EscapeLights();
        noPlan(x);
        due("days()", x.days(), NONE);
        due("day(0)", x.day(0), NONE);
        due("day(-1)", x.day(-1), BAD);
        due("light(1, 12)", x.light(1, 12), NONE);
        due("light(2, 12)", x.light(2, 12), BAD);
        due("light(-1, 12)", x.light(-1, 12), BAD);
        x.add(9, 0, 0, 0);
        due("light(2, 11)", x.light(2, 11), NONE);
        due("light(2, 13)", x.light(2, 13), BAD);
        due("light(3, 11)", x.light(3, 11), BAD);
        EscapeLights y = Edge.lightsAt(10);
        y.route(10, 10);
        due("ifLamp(0, 0)", y.ifLamp(0, 0), NONE);
        due("ifLamp(0, 3)", y.ifLamp(0, 3), BAD);
        due("ifLamp(1, 0)", y.ifLamp(1, 0), BAD);
        due("carryOut()", y.carryOut(), STATE);
        EscapeLights z = new EscapeLights();
        due("bestSwap(2)", z.bestSwap(2), NONE);
        due("bestSwap(3)", z.bestSwap(3), BAD);
        due("bestSwap(-1)", z.bestSwap(-1), BAD);
        due("carryOut()", z.carryOut(), BAD);
    }

    private static void truncated() {
        CHECK.sentence("Divisions are truncated");
        EscapeLights x = new EscapeLights();
        x.add(0, 0, 1, 0);
        due("capacity: 5 * 90 * 1000 / 4000 = 112.5", x.light(0, 6), 112);
        x.test(1, true);
        x.test(1, true);
        due("capacity: 5 * 90 * 992 / 4000 = 111.6", x.light(0, 6), 111);
        due("charge", x.light(0, 7), 0);
        x.pass(1);
        due("endurance: 111 / 24 = 4.625", x.light(0, 9), 4);
        x.pass(4);
        due("charge", x.light(0, 7), 555);
        due("endurance: 555 / 24 = 23.125", x.light(0, 9), 23);
        EscapeLights y = Edge.lightsAt(0);
        Edge.test(y, 1, 10);
        due("capacity: 5 * 60 * 950 / 4000 = 71.25", y.light(0, 6), 71);
        due("charge", y.light(0, 7), 0);
        y.pass(1);
        due("endurance: 71 / 24 = 2.958", y.light(0, 9), 2);
    }

    /** 43 bytes and 8 more calls, then calls that alter nothing but what is remembered. */
    private static EscapeLights after511() {
        EscapeLights x = new EscapeLights();
        planned(x);
        for (int call = 1 + 43 + 7; call < 511; call++) {
            x.setNeed(61);
        }
        return x;
    }

    private static void call512() {
        CHECK.sentence("An object is used for at most 512 calls after it has been made");
        Map<String, Long> want = new LinkedHashMap<>();
        Map<String, ToLongFunction<EscapeLights>> last = new LinkedHashMap<>();
        putCalls(last, want);
        for (String call : last.keySet()) {
            due(call + " as the 512th call", last.get(call).applyAsLong(after511()), want.get(call));
        }
        EscapeLights early = new EscapeLights();
        planned(early);
        early.setNeed(61);
        due("digest() as the 512th call", after511().digest(), early.digest());
    }

    private static void putCalls(Map<String, ToLongFunction<EscapeLights>> last, Map<String, Long> want) {
        put(last, want, "type(33)", 44, x -> x.type(33));
        put(last, want, "clear()", 43, x -> x.clear());
        put(last, want, "load()", 203, x -> x.load());
        put(last, want, "add(0, 0, 0, 0)", 3, x -> x.add(0, 0, 0, 0));
        put(last, want, "drop(0)", 2, x -> x.drop(0));
        put(last, want, "maintain(1, false)", 1, x -> x.maintain(1, false));
        put(last, want, "route(0, 0)", 2, x -> x.route(0, 0));
        put(last, want, "dropRoute(1)", 1, x -> x.dropRoute(1));
        put(last, want, "setNeed(1)", 61, x -> x.setNeed(1));
        put(last, want, "setStock(2, 0)", 99, x -> x.setStock(2, 0));
        put(last, want, "light(1, 7)", 528, x -> x.light(1, 7));
        put(last, want, "swap(1, 2)", 98, x -> x.swap(1, 2));
        put(last, want, "swapAll(9000)", 3, x -> x.swapAll(9000));
        put(last, want, "renew(0)", 995, x -> x.renew(0));
        put(last, want, "pass(2000)", 2, x -> x.pass(2000));
        put(last, want, "test(7, true)", 2, x -> x.test(7, true));
        put(last, want, "carryOut()", 0, x -> x.carryOut());
        put(last, want, "routeAt(0, 4)", 224, x -> x.routeAt(0, 4));
        put(last, want, "lasts(1, 2)", 22, x -> x.lasts(1, 2));
        put(last, want, "reaching(14, true)", 2, x -> x.reaching(14, true));
        put(last, want, "allowed(5)", 0, x -> x.allowed(5));
        put(last, want, "days()", 2, x -> x.days());
        put(last, want, "day(1)", 6, x -> x.day(1));
        put(last, want, "ifLamp(1, 2)", 2, x -> x.ifLamp(1, 2));
        put(last, want, "bestSwap(0)", 0, x -> x.bestSwap(0));
        put(last, want, "told(13)", 8, x -> x.told(13));
        put(last, want, "undo()", 7, x -> x.undo());
    }

    private static void put(Map<String, ToLongFunction<EscapeLights>> last, Map<String, Long> want, String call,
            long answer, ToLongFunction<EscapeLights> use) {
        last.put(call, use);
        want.put(call, answer);
    }
}
