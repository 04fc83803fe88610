/** The paragraph PLANS, and promises 18 and 22 to 26. */
public final class PlansEdgeTest {
    private static final Check CHECK = new Check();
    private static final int BAD = -1, STATE = -2, FULL = -3, NONE = -9;

    public static void main(String[] args) {
        allowedTheEmptySet();
        allowedSetsThatAreNotThere();
        allowedByTheLastLight();
        allowedPlaceByPlace();
        allowedByLightsThatAreReady();
        safeRoutesOnly();
        allLightsAreDivided();
        asAllLightsAreNow();
        noPlanWithAnyNumberOfDays();
        eachPlaceOfARoute();
        fewestDays();
        theLightWithTheSmallestNumber();
        theSmallestMask();
        daysWithoutLights();
        daysOfOneLight();
        daysOfTenLights();
        dayBehindTheLast();
        dayWithoutAPlan();
        negativeDay();
        dayOfALight();
        ifLampOutside();
        ifLampNothingChanges();
        ifLampNone();
        ifLampOfTheSameKind();
        ifLampReachesJustSo();
        bestSwapOutside();
        bestSwapWithoutLights();
        bestSwapFirstOfSeveral();
        bestSwapNoPlanIsMore();
        bestSwapFewestDays();
        bestSwapTheLastLight();
        carryOutWithoutLights();
        carryOutWithoutAPlan();
        carryOutUpToTheLastHour();
        carryOutBehindTheLastDay();
        carryOutCounts();
        carryOutAsItIsNow();
        CHECK.end();
    }

    private static void due(String call, long got, long want) {
        CHECK.due(call, got, want);
    }

    private static void duePlan(EscapeLights x, int... sets) {
        due("days()", x.days(), sets.length);
        for (int day = 0; day < sets.length; day++) {
            due("day(" + day + ")", x.day(day), sets[day]);
        }
        due("day(" + sets.length + ")", x.day(sets.length), NONE);
    }

    private static void allowedTheEmptySet() {
        CHECK.sentence("Promise 22: set: the lights, as a bit mask, perhaps empty");
        EscapeLights x = new EscapeLights();
        due("allowed(0) without lights", x.allowed(0), 1);
        x.route(10, 10);
        due("allowed(0) with a route that is not safe", x.allowed(0), 1);
        x.add(10, 0, 0, 0);
        due("allowed(0) with a route that is safe", x.allowed(0), 1);
        due("allowed(1)", x.allowed(1), 0);
    }

    private static void allowedSetsThatAreNotThere() {
        CHECK.sentence("Promise 22: BAD if set is negative or contains a light that is not there");
        for (int lights = 0; lights <= 10; lights++) {
            EscapeLights x = new EscapeLights();
            for (int i = 0; i < lights; i++) {
                x.add(10, 0, 0, 0);
            }
            for (int set : Edge.noSet(lights)) {
                due("allowed(" + set + ") with " + lights, x.allowed(set), BAD);
            }
            int all = (1 << lights) - 1;
            due("allowed(" + all + ") without routes", x.allowed(all), 1);
            x.route(10, 10);
            due("allowed(" + all + ") with a route", x.allowed(all), lights == 0 ? 1 : 0);
        }
    }

    private static void allowedByTheLastLight() {
        CHECK.sentence("is covered by the lights that are ready and not in the set: by one that is left");
        EscapeLights x = Edge.lightsAt(10, 10, 10, 10, 10, 10, 10, 10, 10, 10);
        x.route(6, 14);
        for (int i = 0; i < 10; i++) {
            due("allowed(all but " + i + ")", x.allowed(1023 - (1 << i)), 1);
        }
        due("allowed(1023)", x.allowed(1023), 0);
    }

    private static void allowedPlaceByPlace() {
        CHECK.sentence("each route that is safe is covered: up to its first and its last place");
        // light 0 reaches 6 to 14, light 1 reaches 7 to 15, light 2 reaches 5 to 13
        EscapeLights x = Edge.lightsAt(10, 11, 9);
        x.route(7, 14);
        due("allowed(1)", x.allowed(1), 1);
        due("allowed(2)", x.allowed(2), 1);
        due("allowed(3): place 14 is left", x.allowed(3), 0);
        x.dropRoute(0);
        x.route(6, 13);
        due("allowed(1)", x.allowed(1), 1);
        due("allowed(5): place 6 is left", x.allowed(5), 0);
        due("allowed(3)", x.allowed(3), 1);
        x.route(14, 14);
        due("allowed(3): another route", x.allowed(3), 0);
        x.dropRoute(1);
        x.route(7, 7);
        due("allowed(7)", x.allowed(7), 0);
        due("allowed(6)", x.allowed(6), 1);
    }

    private static void allowedByLightsThatAreReady() {
        CHECK.sentence("covered by the lights that are ready and not in the set: at the need and below it");
        EscapeLights x = new EscapeLights();
        x.add(10, 0, 0, 0);
        x.add(10, 0, 1, 0);
        x.route(10, 10);
        x.setNeed(75);
        due("allowed(2) at the need", x.allowed(2), 1);
        x.setNeed(76);
        due("allowed(2) above it", x.allowed(2), 0);
        due("allowed(1)", x.allowed(1), 1);
        x.setNeed(112);
        due("allowed(2)", x.allowed(2), 0);
        x.setNeed(113);
        due("allowed(2) when the route is not safe any more", x.allowed(2), 1);
        due("allowed(3)", x.allowed(3), 1);
    }

    private static void safeRoutesOnly() {
        CHECK.sentence("A set of lights is allowed if each route that is safe (with all lights) is covered: no other");
        EscapeLights x = Edge.lightsAt(10, 10);
        x.route(6, 15);
        x.route(5, 14);
        duePlan(x, 3);
        x.route(6, 14);
        duePlan(x, 1, 2);
        due("allowed(3)", x.allowed(3), 0);
        x.dropRoute(2);
        due("allowed(3)", x.allowed(3), 1);
        // the sixth route counts too
        for (int r = 2; r < 5; r++) {
            x.route(6, 15);
        }
        x.route(14, 14);
        due("allowed(3)", x.allowed(3), 0);
        duePlan(x, 1, 2);
    }

    private static void allLightsAreDivided() {
        CHECK.sentence("A plan divides all lights into days: also those that are not ready or reach no route");
        EscapeLights x = Edge.lightsAt(10, 10, 10, 100);
        x.route(10, 10);
        x.renew(0);
        duePlan(x, 3, 12);
        x.renew(1);
        x.renew(2);
        duePlan(x, 15);
        x.pass(24);
        duePlan(x, 1, 14);
    }

    private static void asAllLightsAreNow() {
        CHECK.sentence("as all lights are now (charges and health at later days do not matter)");
        // the first day leaves light 0 below the need for more than 24 hours
        EscapeLights x = new EscapeLights();
        x.add(10, 0, 3, 0);
        x.add(10, 0, 3, 0);
        x.route(10, 10);
        x.setNeed(180);
        Edge.test(x, 3, 90);
        x.pass(100);
        due("light(0, 9)", x.light(0, 9), 184);
        duePlan(x, 1, 2);
        Edge.test(x, 3, 12);
        x.pass(100);
        due("light(0, 9)", x.light(0, 9), 179);
        duePlan(x, 3);
    }

    private static void noPlanWithAnyNumberOfDays() {
        CHECK.sentence("There is no plan if there is none with any number of days");
        EscapeLights x = Edge.lightsAt(10, 50, 50);
        x.route(50, 50);
        duePlan(x, 3, 4);
        x.route(10, 10);
        due("days()", x.days(), NONE);
        due("day(0)", x.day(0), NONE);
        x.add(6, 0, 0, 0);
        duePlan(x, 3, 12);
        x.route(11, 11);
        due("days(): only light 0 reaches 11", x.days(), NONE);
        x.undo();
        x.renew(3);
        due("days(): the other one is not ready", x.days(), NONE);
    }

    /** The place that few lights reach is the first one, the last one, or one between them. */
    private static void eachPlaceOfARoute() {
        CHECK.sentence("There is no plan if there is none with any number of days: by any place of a route");
        // light 0 reaches 6 to 14, light 1 reaches 7 to 15, light 2 reaches 8 to 16
        EscapeLights x = Edge.lightsAt(10, 11, 12);
        x.route(6, 16);
        due("days(): only light 0 reaches 6", x.days(), NONE);
        x.dropRoute(0);
        x.route(7, 16);
        due("days(): only light 2 reaches 16", x.days(), NONE);
        x.dropRoute(0);
        x.route(6, 14);
        due("days(): only light 0 reaches 6", x.days(), NONE);
        x.dropRoute(0);
        x.route(7, 15);
        // place 7 needs light 0 or 1, place 15 light 1 or 2
        duePlan(x, 5, 2);
        x.dropRoute(0);
        x.route(8, 15);
        // place 8 needs any of them now, place 15 still light 1 or 2
        duePlan(x, 3, 4);
        x.dropRoute(0);
        x.route(7, 14);
        duePlan(x, 1, 6);
        // only light 1 reaches 15, which lies between two others
        EscapeLights y = Edge.lightsAt(10, 15, 20, 10, 20);
        y.route(14, 16);
        due("days(): only light 1 reaches 15", y.days(), NONE);
        y.dropRoute(0);
        y.route(16, 16);
        duePlan(y, 3, 28);
    }

    private static void fewestDays() {
        CHECK.sentence("The best plan is one with the fewest days");
        EscapeLights x = Edge.lightsAt(10, 10, 10, 10);
        duePlan(x, 15);
        x.route(0, 0);
        duePlan(x, 15);
        x.route(10, 10);
        duePlan(x, 1, 14);
    }

    private static void theLightWithTheSmallestNumber() {
        CHECK.sentence("the set is tested that contains the light with the smallest number of those without a day yet");
        // light 0 has the first day though a set without it could be smaller for no other light
        EscapeLights x = Edge.lightsAt(100, 10, 10);
        x.route(10, 10);
        duePlan(x, 3, 4);
        EscapeLights y = Edge.lightsAt(10, 100, 10);
        y.route(10, 10);
        duePlan(y, 1, 6);
    }

    private static void theSmallestMask() {
        CHECK.sentence("of all such sets with which a plan with the fewest days is possible, the smallest bit mask");
        // light 0 alone would leave 1 and 2 together, so light 1 goes with it
        EscapeLights x = Edge.lightsAt(10, 50, 50, 10);
        x.route(10, 10);
        x.route(50, 50);
        duePlan(x, 3, 12);
        EscapeLights y = Edge.lightsAt(10, 10, 50, 50, 90, 90, 130, 130, 170, 170);
        for (int place = 10; place <= 170; place += 40) {
            y.route(place, place);
        }
        duePlan(y, 341, 682);
        EscapeLights z = Edge.lightsAt(170, 170, 10, 10, 10, 50, 50, 50, 50, 90);
        z.route(10, 10);
        z.route(50, 50);
        duePlan(z, 1 + 4 + 32, 2 + 8 + 16 + 64 + 128 + 256 + 512);
    }

    private static void daysWithoutLights() {
        CHECK.sentence("Promise 23: Returns the number (0 without lights)");
        EscapeLights x = new EscapeLights();
        duePlan(x);
        for (int r = 0; r < 6; r++) {
            x.route(r, 200);
        }
        duePlan(x);
        x.add(0, 0, 0, 0);
        duePlan(x, 1);
        x.drop(0);
        duePlan(x);
    }

    private static void daysOfOneLight() {
        CHECK.sentence("Promise 23: Returns the fewest days of a plan: of one light");
        EscapeLights x = Edge.lightsAt(10);
        duePlan(x, 1);
        x.route(6, 15);
        duePlan(x, 1);
        x.route(6, 14);
        due("days() when it alone covers a route", x.days(), NONE);
        x.setNeed(76);
        duePlan(x, 1);
    }

    private static void daysOfTenLights() {
        CHECK.sentence("Promise 23: Returns the fewest days of a plan: of 10 lights");
        EscapeLights x = Edge.lightsAt(10, 10, 10, 10, 10, 10, 10, 10, 10, 10);
        duePlan(x, 1023);
        x.route(10, 10);
        duePlan(x, 1, 1022);
        for (int i = 0; i < 8; i++) {
            x.renew(i);
        }
        duePlan(x, 257, 766);
        x.renew(8);
        due("days() when only light 9 is ready", x.days(), NONE);
    }

    private static void dayBehindTheLast() {
        CHECK.sentence("Promise 24: NONE if there is no plan, or it has not so many days");
        EscapeLights x = new EscapeLights();
        for (int day : new int[] {0, 1, 2, 9, 10, 11, 31, 32, 33, 64, Edge.MAX}) {
            due("day(" + day + ") without lights", x.day(day), NONE);
        }
        x.add(10, 0, 0, 0);
        due("day(0)", x.day(0), 1);
        for (int day : new int[] {1, 2, 9, 10, 11, 32, 64, Edge.MAX}) {
            due("day(" + day + ") of a plan of one", x.day(day), NONE);
        }
        x.add(10, 0, 0, 0);
        x.route(10, 10);
        due("day(1)", x.day(1), 2);
        for (int day : new int[] {2, 3, 9, 10, 11, 32, 33, 64, Edge.MAX}) {
            due("day(" + day + ") of a plan of two", x.day(day), NONE);
        }
    }

    private static void dayWithoutAPlan() {
        CHECK.sentence("Promise 24: NONE if there is no plan");
        EscapeLights x = Edge.lightsAt(10, 10);
        x.route(10, 10);
        due("day(1)", x.day(1), 2);
        x.renew(1);
        due("day(0)", x.day(0), NONE);
        due("day(1)", x.day(1), NONE);
        due("day(2147483647)", x.day(Edge.MAX), NONE);
        due("light(0, 12)", x.light(0, 12), NONE);
        due("light(1, 12)", x.light(1, 12), NONE);
    }

    private static void negativeDay() {
        CHECK.sentence("Promise 24: BAD if day is negative");
        EscapeLights x = Edge.lightsAt(10, 10);
        EscapeLights none = new EscapeLights();
        for (int day : new int[] {-1, -2, -9, -32, Edge.MIN + 1, Edge.MIN}) {
            due("day(" + day + ")", x.day(day), BAD);
            due("day(" + day + ") without lights", none.day(day), BAD);
        }
        x.drop(0);
        x.route(10, 10);
        due("day(-1) without a plan", x.day(-1), BAD);
        due("day(0) without a plan", x.day(0), NONE);
    }

    private static void dayOfALight() {
        CHECK.sentence("Promise 12: 12 for the day on which it is tested in the best plan, from 0");
        EscapeLights x = Edge.lightsAt(10, 100, 10, 50, 50, 10, 50, 10, 10, 10);
        x.route(10, 10);
        x.route(50, 50);
        duePlan(x, 9, 1014);
        int[] days = {0, 1, 1, 0, 1, 1, 1, 1, 1, 1};
        for (int i = 0; i < 10; i++) {
            due("light(" + i + ", 12)", x.light(i, 12), days[i]);
        }
        due("light(10, 12)", x.light(10, 12), BAD);
    }

    private static void ifLampOutside() {
        CHECK.sentence("Promise 25: BAD if there is no such light or kind");
        for (int lights = 0; lights <= 10; lights++) {
            EscapeLights x = new EscapeLights();
            for (int i = 0; i < lights; i++) {
                x.add(10, 0, 0, 0);
            }
            for (int i : Edge.noNumber(lights)) {
                due("ifLamp(" + i + ", 0) of " + lights, x.ifLamp(i, 0), BAD);
                due("ifLamp(" + i + ", 2) of " + lights, x.ifLamp(i, 2), BAD);
            }
            for (int lamp : Edge.outside(0, 2)) {
                due("ifLamp(0, " + lamp + ") of " + lights, x.ifLamp(0, lamp), BAD);
            }
            for (int lamp = 0; lamp <= 2 && lights > 0; lamp++) {
                due("ifLamp of the last one", x.ifLamp(lights - 1, lamp), 1);
            }
        }
    }

    private static void ifLampNothingChanges() {
        CHECK.sentence("Promise 25: Nothing changes");
        EscapeLights x = Edge.lightsAt(10, 15);
        x.route(11, 14);
        x.route(15, 16);
        x.test(1, true);
        x.pass(24);
        due("days()", x.days(), NONE);
        due("ifLamp(0, 2)", x.ifLamp(0, 2), 2);
        due("days()", x.days(), NONE);
        due("day(0)", x.day(0), NONE);
        due("light(0, 12)", x.light(0, 12), NONE);
        due("light(0, 3)", x.light(0, 3), 0);
        due("light(0, 8)", x.light(0, 8), 2940);
        due("light(0, 11)", x.light(0, 11), 60);
        due("told(6)", x.told(6), 0);
        due("told(13)", x.told(13), 6);
        due("routeAt(1, 4)", x.routeAt(1, 4), 75);
        due("allowed(2)", x.allowed(2), 0);
        due("carryOut()", x.carryOut(), STATE);
    }

    private static void ifLampNone() {
        CHECK.sentence("Promise 25: Returns the fewest days; NONE if there would be no plan");
        EscapeLights x = Edge.lightsAt(10, 50);
        due("ifLamp(0, 0) without routes", x.ifLamp(0, 0), 1);
        x.route(10, 10);
        for (int lamp = 0; lamp <= 2; lamp++) {
            due("ifLamp(0, " + lamp + ")", x.ifLamp(0, lamp), NONE);
            due("ifLamp(1, " + lamp + ")", x.ifLamp(1, lamp), NONE);
        }
        x.add(19, 0, 0, 0);
        due("ifLamp(2, 1)", x.ifLamp(2, 1), NONE);
        due("ifLamp(2, 2)", x.ifLamp(2, 2), 2);
        // a smaller reach makes a route unsafe, which makes a plan possible
        EscapeLights y = new EscapeLights();
        y.add(10, 0, 0, 2);
        y.route(10, 19);
        due("days()", y.days(), NONE);
        due("ifLamp(0, 2)", y.ifLamp(0, 2), NONE);
        due("ifLamp(0, 1)", y.ifLamp(0, 1), 1);
    }

    private static void ifLampOfTheSameKind() {
        CHECK.sentence("Promise 25: if a light had a new lamp of some kind (perhaps the one that it has)");
        EscapeLights x = Edge.lightsAt(10, 10);
        x.route(10, 10);
        x.maintain(0, true);
        x.pass(49);
        due("days() with a rest of 60", x.days(), 2);
        x.pass(1);
        due("days() with a rest of 0", x.days(), NONE);
        due("ifLamp(0, 0)", x.ifLamp(0, 0), 2);
        due("ifLamp(1, 0)", x.ifLamp(1, 0), NONE);
        due("light(0, 8)", x.light(0, 8), 0);
        x.renew(0);
        due("ifLamp(0, 0) with an empty battery", x.ifLamp(0, 0), NONE);
    }

    private static void ifLampReachesJustSo() {
        CHECK.sentence("Promise 25: if a light had a new lamp of some kind: its reach");
        int[] reach = {4, 6, 9};
        for (int lamp = 0; lamp <= 2; lamp++) {
            EscapeLights x = Edge.lightsAt(100, 0);
            x.route(100 + reach[lamp], 100 + reach[lamp]);
            x.add(104 + reach[lamp], 0, 0, 0);
            due("ifLamp(0, " + lamp + ") just near enough", x.ifLamp(0, lamp), 2);
            due("ifLamp(1, " + lamp + ") far away", x.ifLamp(1, lamp), lamp == 0 ? 2 : NONE);
            x.dropRoute(0);
            x.route(101 + reach[lamp], 101 + reach[lamp]);
            due("ifLamp(0, " + lamp + ") not near enough", x.ifLamp(0, lamp), NONE);
        }
    }

    private static void bestSwapOutside() {
        CHECK.sentence("Promise 26: BAD if lamp is out of range");
        EscapeLights x = Edge.lightsAt(10);
        EscapeLights none = new EscapeLights();
        for (int lamp : Edge.outside(0, 2)) {
            due("bestSwap(" + lamp + ")", x.bestSwap(lamp), BAD);
            due("bestSwap(" + lamp + ") without lights", none.bestSwap(lamp), BAD);
        }
        for (int lamp = 0; lamp <= 2; lamp++) {
            due("bestSwap(" + lamp + ")", x.bestSwap(lamp), 0);
        }
    }

    private static void bestSwapWithoutLights() {
        CHECK.sentence("Promise 26: NONE if there are no lights");
        EscapeLights x = new EscapeLights();
        for (int lamp = 0; lamp <= 2; lamp++) {
            due("bestSwap(" + lamp + ")", x.bestSwap(lamp), NONE);
        }
        x.route(0, 200);
        due("bestSwap(0) with a route", x.bestSwap(0), NONE);
        x.add(0, 0, 0, 0);
        due("bestSwap(0) with a light", x.bestSwap(0), 0);
        x.drop(0);
        due("bestSwap(0) with none again", x.bestSwap(0), NONE);
    }

    private static void bestSwapFirstOfSeveral() {
        CHECK.sentence("Promise 26: of several the first light");
        EscapeLights x = Edge.lightsAt(10, 10, 10, 10, 10, 10, 10, 10, 10, 10);
        due("bestSwap(0): one day with each", x.bestSwap(0), 0);
        x.route(10, 10);
        due("bestSwap(0): two days with each", x.bestSwap(0), 0);
        // both lights behind the first one would reach 24
        EscapeLights y = Edge.lightsAt(100, 18, 30, 28);
        y.route(24, 24);
        due("ifLamp(0, 1)", y.ifLamp(0, 1), NONE);
        due("ifLamp(1, 1)", y.ifLamp(1, 1), 2);
        due("ifLamp(2, 1)", y.ifLamp(2, 1), 2);
        due("bestSwap(1)", y.bestSwap(1), 1);
    }

    private static void bestSwapNoPlanIsMore() {
        CHECK.sentence("Promise 26: (no plan counts as more than any)");
        EscapeLights x = Edge.lightsAt(100, 10, 19);
        x.route(10, 10);
        due("ifLamp(0, 2)", x.ifLamp(0, 2), NONE);
        due("ifLamp(1, 2)", x.ifLamp(1, 2), NONE);
        due("ifLamp(2, 2)", x.ifLamp(2, 2), 2);
        due("bestSwap(2)", x.bestSwap(2), 2);
        due("bestSwap(1): no plan with any", x.bestSwap(1), 0);
        // one day without the only safe route, two days with it covered twice
        EscapeLights y = new EscapeLights();
        y.add(6, 0, 0, 0);
        y.add(10, 0, 0, 2);
        y.route(10, 18);
        due("ifLamp(0, 0)", y.ifLamp(0, 0), NONE);
        due("ifLamp(1, 0)", y.ifLamp(1, 0), 1);
        due("bestSwap(0)", y.bestSwap(0), 1);
    }

    /** Place 15 is reached by the second light alone; a lamp of kind 1 lets the first one reach it, or neither. */
    private static void bestSwapFewestDays() {
        CHECK.sentence("Promise 26: the fewest days: one day is fewer than two");
        EscapeLights x = new EscapeLights();
        x.add(10, 0, 0, 0);
        x.add(23, 0, 0, 2);
        x.add(100, 0, 0, 1);
        x.route(15, 15);
        due("ifLamp(0, 1)", x.ifLamp(0, 1), 2);
        due("ifLamp(1, 1)", x.ifLamp(1, 1), 1);
        due("ifLamp(2, 1)", x.ifLamp(2, 1), NONE);
        due("bestSwap(1)", x.bestSwap(1), 1);
        x.drop(0);
        x.add(10, 0, 0, 0);
        due("ifLamp(0, 1)", x.ifLamp(0, 1), 1);
        due("ifLamp(2, 1)", x.ifLamp(2, 1), 2);
        due("bestSwap(1)", x.bestSwap(1), 0);
    }

    private static void bestSwapTheLastLight() {
        CHECK.sentence("Promise 26: Returns the light: the tenth");
        EscapeLights x = Edge.lightsAt(10, 100, 100, 100, 100, 100, 100, 100, 100, 19);
        x.route(10, 10);
        due("bestSwap(2)", x.bestSwap(2), 9);
        due("bestSwap(1)", x.bestSwap(1), 0);
        due("ifLamp(9, 2)", x.ifLamp(9, 2), 2);
        due("days()", x.days(), NONE);
    }

    private static void carryOutWithoutLights() {
        CHECK.sentence("Promise 18: BAD if there are no lights");
        EscapeLights x = new EscapeLights();
        due("carryOut()", x.carryOut(), BAD);
        x.route(10, 10);
        due("carryOut() with a route", x.carryOut(), BAD);
        x.add(10, 0, 0, 0);
        x.drop(0);
        due("carryOut() when none is left", x.carryOut(), BAD);
        due("told(5)", x.told(5), 0);
        due("told(13)", x.told(13), 3);
    }

    private static void carryOutWithoutAPlan() {
        CHECK.sentence("Promise 18: STATE if there is no plan");
        EscapeLights x = Edge.lightsAt(10);
        x.route(6, 14);
        due("carryOut()", x.carryOut(), STATE);
        due("told(5)", x.told(5), 0);
        due("told(10)", x.told(10), 0);
        x.setNeed(75);
        due("carryOut() at the need", x.carryOut(), STATE);
        x.setNeed(76);
        due("carryOut() above it", x.carryOut(), 0);
    }

    private static void carryOutUpToTheLastHour() {
        CHECK.sentence("Promise 18: FULL if more than 100000 hours would have passed");
        EscapeLights one = Edge.lightsAt(10);
        Edge.pass(one, 99977);
        due("carryOut() of a day from 99977", one.carryOut(), FULL);
        due("told(5)", one.told(5), 99977);
        due("told(10)", one.told(10), 0);
        one.undo();
        one.pass(1976);
        due("told(5)", one.told(5), 99976);
        due("carryOut() of a day from 99976", one.carryOut(), 0);
        due("told(5)", one.told(5), 100000);
        due("light(0, 5)", one.light(0, 5), 895);
        EscapeLights two = Edge.lightsAt(10, 10);
        two.route(10, 10);
        Edge.pass(two, 99953);
        due("carryOut() of two days from 99953", two.carryOut(), FULL);
        due("told(5)", two.told(5), 99953);
        due("told(10): the first day alone is not carried out", two.told(10), 0);
        due("light(0, 11)", two.light(0, 11), NONE);
        two.undo();
        two.pass(1952);
        due("told(5)", two.told(5), 99952);
        due("carryOut() of two days from 99952", two.carryOut(), 0);
        due("told(5)", two.told(5), 100000);
        due("carryOut()", two.carryOut(), FULL);
    }

    private static void carryOutBehindTheLastDay() {
        CHECK.sentence("Promise 18: and then 24 hours pass (also behind the last day)");
        EscapeLights x = Edge.lightsAt(10);
        due("carryOut()", x.carryOut(), 0);
        due("told(5)", x.told(5), 24);
        due("light(0, 7)", x.light(0, 7), 1776);
        x.add(10, 0, 0, 0);
        x.route(10, 10);
        due("carryOut()", x.carryOut(), 0);
        due("told(5)", x.told(5), 72);
        due("light(1, 7)", x.light(1, 7), 1776);
        due("told(10)", x.told(10), 3);
    }

    private static void carryOutCounts() {
        CHECK.sentence("Promise 18: Returns how many lights did not pass");
        EscapeLights x = Edge.lightsAt(1, 2, 3, 4, 5, 6, 7, 8, 9, 10);
        due("carryOut(): all pass", x.carryOut(), 0);
        for (int i = 0; i < 10; i++) {
            x.renew(i);
        }
        due("carryOut(): none passes", x.carryOut(), 10);
        due("told(10)", x.told(10), 10);
        due("told(11)", x.told(11), 10);
        x.renew(9);
        due("carryOut(): all but one", x.carryOut(), 1);
        due("told(10)", x.told(10), 19);
        due("told(11)", x.told(11), 11);
    }

    /** Light 0 burns for 180 minutes on the first day, and is lit for 1440 more before the second one. */
    private static void carryOutAsItIsNow() {
        CHECK.sentence("Promise 18: on each day, its set is tested (whether it is allowed then or not)");
        int[] hours = {20, 21};
        int[] rest = {180, 120};
        for (int k = 0; k < 2; k++) {
            EscapeLights x = new EscapeLights();
            x.add(10, 0, 3, 0);
            x.add(10, 0, 3, 0);
            x.route(10, 10);
            x.setNeed(180);
            x.maintain(0, true);
            x.pass(hours[k]);
            duePlan(x, 1, 2);
            x.test(1, true);
            x.pass(24);
            due("light(0, 8) on the second day", x.light(0, 8), rest[k]);
            due("allowed(2) on the second day", x.allowed(2), 1 - k);
            due("days() on the second day", x.days(), k == 0 ? 2 : NONE);
            x.undo();
            x.undo();
            due("carryOut()", x.carryOut(), 0);
            due("light(0, 8)", x.light(0, 8), 0);
            due("light(1, 11)", x.light(1, 11), 180);
            due("told(10)", x.told(10), 2);
        }
    }
}
