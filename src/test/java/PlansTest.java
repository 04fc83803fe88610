/** Promises 22 to 26: plans. */
public final class PlansTest {
    private static final Check CHECK = new Check();

    public static void main(String[] args) {
        allowed();
        withoutLights();
        daysAndDay();
        smallestMask();
        noPlan();
        unsafeRoutesDoNotCount();
        lightsThatAreNotReady();
        askedFirst();
        plansFollowChanges();
        ifLamp();
        ifLampEndsABurntOutOne();
        bestSwap();
        CHECK.end();
    }

    private static void due(String call, long got, long want) {
        CHECK.due(call, got, want);
    }

    private static EscapeLights lightsAt(int... places) {
        EscapeLights x = new EscapeLights();
        for (int place : places) {
            x.add(place, 0, 0, 0);
        }
        return x;
    }

    private static void duePlan(EscapeLights x, int... sets) {
        due("days()", x.days(), sets.length);
        for (int day = 0; day < sets.length; day++) {
            due("day(" + day + ")", x.day(day), sets[day]);
            for (int i = 0; i < x.told(0); i++) {
                if ((sets[day] >> i & 1) == 1) {
                    due("light(" + i + ", 12)", x.light(i, 12), day);
                }
            }
        }
        due("day behind the last one", x.day(sets.length), -9);
        due("day(-1)", x.day(-1), -1);
        due("day(2147483647)", x.day(2147483647), -9);
    }

    /** Promise 22. */
    private static void allowed() {
        EscapeLights x = lightsAt(10, 10, 10, 50);
        due("allowed(15) without routes", x.allowed(15), 1);
        x.route(8, 12);
        due("allowed(-1)", x.allowed(-1), -1);
        due("allowed(16)", x.allowed(16), -1);
        due("allowed(-2147483648)", x.allowed(-2147483648), -1);
        for (int set = 0; set < 16; set++) {
            due("allowed(" + set + ")", x.allowed(set), (set & 7) == 7 ? 0 : 1);
        }
        x.route(50, 54);
        for (int set = 0; set < 16; set++) {
            due("allowed(" + set + ")", x.allowed(set), (set & 7) == 7 || set >= 8 ? 0 : 1);
        }
        x.renew(0);
        for (int set = 0; set < 16; set++) {
            due("allowed(" + set + ")", x.allowed(set), (set & 6) == 6 || set >= 8 ? 0 : 1);
        }
        x.renew(1);
        due("allowed(4): the last ready light", x.allowed(4), 0);
        x.undo();
        x.route(50, 55);
        x.dropRoute(1);
        due("allowed(8) of a route that is not safe", x.allowed(8), 1);
        due("allowed is no change", x.told(13), 8);
    }

    /** Promises 23 and 24. */
    private static void withoutLights() {
        EscapeLights x = new EscapeLights();
        duePlan(x);
        due("allowed(0)", x.allowed(0), 1);
        due("allowed(1)", x.allowed(1), -1);
        x.route(0, 0);
        duePlan(x);
        due("allowed(0)", x.allowed(0), 1);
    }

    private static void daysAndDay() {
        EscapeLights x = lightsAt(10, 11, 50);
        duePlan(x, 7);
        x.route(8, 12);
        duePlan(x, 1, 6);
        due("days is no change", x.told(13), 4);
        EscapeLights y = lightsAt(0, 1, 2, 3, 4, 5, 6, 7, 8, 9);
        duePlan(y, 1023);
        y.route(4, 4);
        duePlan(y, 1, 1022);
        // place 5 needs one of the lights 1 to 9
        y.route(4, 5);
        duePlan(y, 3, 1020);
        // place 9 needs one of the lights 5 to 9
        y.route(0, 9);
        duePlan(y, 33, 990);
        y.route(13, 13);
        due("only light 9 reaches 13", y.days(), -9);
        EscapeLights z = lightsAt(7, 7, 7, 7, 7, 7, 7, 7, 7, 7);
        z.route(3, 11);
        duePlan(z, 1, 1022);
    }

    private static void smallestMask() {
        EscapeLights x = lightsAt(10, 10, 50, 50);
        x.route(8, 12);
        x.route(48, 52);
        duePlan(x, 5, 10);
        EscapeLights y = lightsAt(10, 50, 100, 100, 50, 10);
        y.route(10, 10);
        y.route(50, 50);
        y.route(100, 100);
        duePlan(y, 7, 56);
        EscapeLights z = lightsAt(100, 10, 10, 50, 10, 50);
        z.route(10, 10);
        z.route(50, 50);
        duePlan(z, 11, 52);
    }

    private static void noPlan() {
        EscapeLights x = lightsAt(10, 10, 50);
        x.route(48, 52);
        due("days()", x.days(), -9);
        due("day(0)", x.day(0), -9);
        due("day(-1)", x.day(-1), -1);
        for (int i = 0; i < 3; i++) {
            due("light(" + i + ", 12)", x.light(i, 12), -9);
        }
    }

    private static void unsafeRoutesDoNotCount() {
        EscapeLights x = lightsAt(10, 10, 50);
        x.route(48, 55);
        x.route(8, 12);
        duePlan(x, 1, 6);
        x.route(54, 54);
        due("days()", x.days(), -9);
    }

    /** They cover nothing, so that they may have their day on any. */
    private static void lightsThatAreNotReady() {
        EscapeLights x = lightsAt(10, 10, 10);
        x.route(8, 12);
        x.renew(1);
        duePlan(x, 1, 6);
        x.renew(0);
        due("days()", x.days(), -9);
        x.renew(2);
        duePlan(x, 7);
        x.pass(1);
        duePlan(x, 7);
        x.pass(23);
        duePlan(x, 1, 6);
    }

    /** Each way to ask for the plan looks at what has changed. */
    private static void askedFirst() {
        EscapeLights x = lightsAt(10, 10);
        due("day(0)", x.day(0), 3);
        x.route(14, 14);
        due("day(0)", x.day(0), 1);
        x.undo();
        due("light(1, 12)", x.light(1, 12), 0);
        x.route(14, 14);
        due("light(1, 12)", x.light(1, 12), 1);
        x.route(15, 15);
        x.add(19, 0, 0, 0);
        due("only light 2 reaches 15", x.carryOut(), -2);
        due("allowed(4)", x.allowed(4), 0);
        x.dropRoute(1);
        due("allowed(4)", x.allowed(4), 1);
        due("carryOut()", x.carryOut(), 0);
        // place 14 lies too far from a light at 9
        EscapeLights y = lightsAt(10, 9, 10);
        y.route(13, 14);
        due("allowed(1)", y.allowed(1), 1);
        due("allowed(5): place 14 alone is left", y.allowed(5), 0);
        due("allowed(3)", y.allowed(3), 1);
    }

    /** Each change is followed, and each undo. */
    private static void plansFollowChanges() {
        EscapeLights x = lightsAt(10, 10);
        x.route(8, 12);
        duePlan(x, 1, 2);
        x.setNeed(76);
        duePlan(x, 3);
        x.undo();
        duePlan(x, 1, 2);
        x.drop(0);
        due("days()", x.days(), -9);
        x.undo();
        duePlan(x, 1, 2);
        x.test(1, true);
        due("days()", x.days(), -9);
        x.undo();
        x.dropRoute(0);
        duePlan(x, 3);
        x.undo();
        Check.write(x, "p1c0b0l0;");
        x.load();
        duePlan(x, 1);
        x.undo();
        x.setStock(2, 9);
        x.route(2, 2);
        duePlan(x, 1, 2);
        x.swap(0, 2);
        due("only light 0 reaches 2", x.days(), -9);
        x.swapAll(9000);
        duePlan(x, 1, 2);
        x.carryOut();
        duePlan(x, 1, 2);
        x.renew(0);
        due("only light 1 is ready", x.days(), -9);
        x.pass(24);
        duePlan(x, 1, 2);
        x.add(2, 0, 0, 0);
        duePlan(x, 1, 6);
    }

    /** Promise 25. */
    private static void ifLamp() {
        EscapeLights x = lightsAt(10, 15);
        due("ifLamp(-1, 0)", x.ifLamp(-1, 0), -1);
        due("ifLamp(2, 0)", x.ifLamp(2, 0), -1);
        due("ifLamp(0, -1)", x.ifLamp(0, -1), -1);
        due("ifLamp(0, 3)", x.ifLamp(0, 3), -1);
        x.route(11, 14);
        long before = x.digest();
        due("ifLamp(0, 0)", x.ifLamp(0, 0), 2);
        due("ifLamp(0, 2)", x.ifLamp(0, 2), 2);
        x.route(15, 16);
        due("days()", x.days(), -9);
        due("ifLamp(0, 0)", x.ifLamp(0, 0), -9);
        due("ifLamp(0, 1)", x.ifLamp(0, 1), 2);
        due("ifLamp(1, 1)", x.ifLamp(1, 1), -9);
        due("days()", x.days(), -9);
        due("light(0, 3)", x.light(0, 3), 0);
        x.undo();
        due("digest()", x.digest() - before, 0);
        x.undo();
        due("ifLamp(0, 0) without routes", x.ifLamp(0, 0), 1);
        due("ifLamp(1, 2) without routes", x.ifLamp(1, 2), 1);
    }

    private static void ifLampEndsABurntOutOne() {
        EscapeLights x = lightsAt(10, 10);
        x.route(8, 12);
        x.maintain(0, true);
        x.pass(50);
        due("told(9)", x.told(9), 1);
        due("days()", x.days(), -9);
        due("ifLamp(0, 0)", x.ifLamp(0, 0), 2);
        due("ifLamp(1, 0)", x.ifLamp(1, 0), -9);
        due("days()", x.days(), -9);
        due("told(9)", x.told(9), 1);
    }

    /** Promise 26. */
    private static void bestSwap() {
        EscapeLights none = new EscapeLights();
        due("bestSwap(0) without lights", none.bestSwap(0), -9);
        due("bestSwap(-1)", none.bestSwap(-1), -1);
        due("bestSwap(3)", none.bestSwap(3), -1);
        EscapeLights x = lightsAt(10, 15, 100);
        due("bestSwap(1): the first one of equal ones", x.bestSwap(1), 0);
        x.route(13, 17);
        due("bestSwap(1)", x.bestSwap(1), 0);
        due("ifLamp(0, 1)", x.ifLamp(0, 1), -9);
        due("ifLamp(1, 1)", x.ifLamp(1, 1), -9);
        due("bestSwap(2): only light 0 reaches 13 to 17 then", x.bestSwap(2), 0);
        due("ifLamp(0, 2)", x.ifLamp(0, 2), 2);
        x.add(22, 0, 0, 0);
        x.drop(0);
        due("ifLamp(0, 2)", x.ifLamp(0, 2), -9);
        due("ifLamp(1, 2)", x.ifLamp(1, 2), -9);
        due("ifLamp(2, 2)", x.ifLamp(2, 2), 2);
        due("bestSwap(2): a plan is more than none", x.bestSwap(2), 2);
        due("bestSwap(0): no plan for any", x.bestSwap(0), 0);
        EscapeLights y = lightsAt(15);
        y.add(22, 0, 0, 2);
        y.add(100, 0, 0, 0);
        y.route(14, 18);
        due("ifLamp(0, 0)", y.ifLamp(0, 0), 2);
        due("ifLamp(1, 0)", y.ifLamp(1, 0), -9);
        due("bestSwap(0)", y.bestSwap(0), 0);
        y.route(19, 30);
        due("bestSwap(0)", y.bestSwap(0), 0);
        y.route(20, 31);
        y.dropRoute(1);
        y.dropRoute(0);
        due("ifLamp(0, 0)", y.ifLamp(0, 0), -9);
        due("ifLamp(1, 0): the route is not safe then", y.ifLamp(1, 0), 1);
        due("ifLamp(2, 0)", y.ifLamp(2, 0), -9);
        due("bestSwap(0): fewer days are more", y.bestSwap(0), 1);
        due("days()", y.days(), -9);
        due("no change", y.told(13), 8);
    }
}
