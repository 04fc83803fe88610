/** Promises 1 and 5 to 12. */
public final class BuildingEdgeTest {
    private static final Check CHECK = new Check();
    private static final int BAD = -1, FULL = -3, NONE = -9;

    public static void main(String[] args) {
        newObject();
        newObjectsAreApart();
        addOutside();
        addAtTheEnds();
        addTheTenth();
        dropOfNone();
        dropFirstMiddleLast();
        dropDownToNone();
        dropTakesTheRestAlong();
        maintainOfNone();
        maintainTwice();
        maintainTheTenth();
        routeOutside();
        routeAtTheEnds();
        routeTheSixth();
        dropRouteOfNone();
        dropRouteFirstMiddleLast();
        dropRouteDownToNone();
        needOutside();
        needAtTheEnds();
        stockOutside();
        stockAtTheEnds();
        lightOfNone();
        lightOutside();
        lightProperties();
        lightWithoutAResult();
        lightWithoutAPlan();
        CHECK.end();
    }

    private static void due(String call, long got, long want) {
        CHECK.due(call, got, want);
    }

    private static EscapeLights tenLights() {
        return Edge.lightsAt(10, 11, 12, 13, 14, 15, 16, 17, 18, 19);
    }

    private static void newObject() {
        CHECK.sentence("Promise 1: Creates a building without lights and routes, with an empty text buffer, before the first hour");
        EscapeLights x = new EscapeLights();
        for (int what = 0; what <= 13; what++) {
            due("told(" + what + ")", x.told(what), what == 4 ? 60 : 0);
        }
        due("clear()", x.clear(), 0);
        due("light(0, 0)", x.light(0, 0), BAD);
        due("routeAt(0, 0)", x.routeAt(0, 0), BAD);
        due("drop(0)", x.drop(0), BAD);
        due("maintain(0, true)", x.maintain(0, true), BAD);
        due("dropRoute(0)", x.dropRoute(0), BAD);
        due("swap(0, 0)", x.swap(0, 0), BAD);
        due("renew(0)", x.renew(0), BAD);
        due("test(1, true)", x.test(1, true), BAD);
        due("carryOut()", x.carryOut(), BAD);
        due("lasts(0, 0)", x.lasts(0, 0), BAD);
        due("reaching(0, false)", x.reaching(0, false), 0);
        due("allowed(0)", x.allowed(0), 1);
        due("allowed(1)", x.allowed(1), BAD);
        due("days()", x.days(), 0);
        due("day(0)", x.day(0), NONE);
        due("ifLamp(0, 0)", x.ifLamp(0, 0), BAD);
        due("bestSwap(0)", x.bestSwap(0), NONE);
        due("undo()", x.undo(), -2);
        due("told(13)", x.told(13), 0);
    }

    private static void newObjectsAreApart() {
        CHECK.sentence("Promise 1: everything else is as told above, whatever was done with another object");
        EscapeLights y = tenLights();
        y.route(10, 10);
        y.setNeed(1);
        y.setStock(0, 99);
        y.pass(2000);
        y.carryOut();
        y.type('p');
        EscapeLights x = new EscapeLights();
        for (int what = 0; what <= 13; what++) {
            due("told(" + what + ")", x.told(what), what == 4 ? 60 : 0);
        }
        due("days()", x.days(), 0);
        x.setNeed(180);
        due("told(4) of the other one", y.told(4), 1);
        due("told(0) of the other one", y.told(0), 10);
    }

    private static void addOutside() {
        CHECK.sentence("Promise 5: BAD if an argument is out of range");
        EscapeLights x = new EscapeLights();
        for (int n : Edge.outside(0, 200)) {
            due("add(" + n + ", 0, 0, 0)", x.add(n, 0, 0, 0), BAD);
        }
        for (int n : Edge.outside(0, 3)) {
            due("add(0, " + n + ", 0, 0)", x.add(0, n, 0, 0), BAD);
            due("add(0, 0, " + n + ", 0)", x.add(0, 0, n, 0), BAD);
        }
        for (int n : Edge.outside(0, 2)) {
            due("add(0, 0, 0, " + n + ")", x.add(0, 0, 0, n), BAD);
        }
        due("told(0)", x.told(0), 0);
        due("told(13)", x.told(13), 0);
    }

    private static void addAtTheEnds() {
        CHECK.sentence("Promise 5: place: 0 to 200, circuit: 0 to 3, battery: 0 to 3, lamp: 0 to 2");
        int[] capacity = {75, 112, 150, 225};
        for (int k = 0; k < 2 * 4 * 4 * 3; k++) {
            int place = 200 * (k % 2), circuit = k / 2 % 4, battery = k / 8 % 4, lamp = k / 32;
            EscapeLights x = new EscapeLights();
            due("add", x.add(place, circuit, battery, lamp), 0);
            int[] want = {place, circuit, battery, lamp, 0, 1000, capacity[battery], 24 * capacity[battery],
                3000 * (lamp + 1), capacity[battery], 1, NONE, 0};
            for (int what = 0; what <= 12; what++) {
                due("light(0, " + what + ")", x.light(0, what), want[what]);
            }
        }
    }

    private static void addTheTenth() {
        CHECK.sentence("Promise 5: Returns its number; FULL if there are 10 lights");
        EscapeLights x = new EscapeLights();
        for (int i = 0; i < 10; i++) {
            due("add", x.add(i, 0, 0, 0), i);
        }
        due("add(0, 0, 0, 0)", x.add(0, 0, 0, 0), FULL);
        due("add(200, 3, 3, 2)", x.add(200, 3, 3, 2), FULL);
        due("add(201, 0, 0, 0): BAD comes first", x.add(201, 0, 0, 0), BAD);
        due("told(0)", x.told(0), 10);
        due("told(13)", x.told(13), 8);
        due("drop(0)", x.drop(0), 9);
        due("add(77, 0, 0, 0)", x.add(77, 0, 0, 0), 9);
        due("light(9, 0)", x.light(9, 0), 77);
        due("light(8, 0)", x.light(8, 0), 9);
        due("add(0, 0, 0, 0)", x.add(0, 0, 0, 0), FULL);
    }

    private static void dropOfNone() {
        CHECK.sentence("Promise 6: BAD if there is no such light");
        for (int lights = 0; lights <= 10; lights++) {
            EscapeLights x = new EscapeLights();
            for (int i = 0; i < lights; i++) {
                x.add(i, 0, 0, 0);
            }
            for (int i : Edge.noNumber(lights)) {
                due("drop(" + i + ") of " + lights, x.drop(i), BAD);
            }
            due("told(0)", x.told(0), lights);
            if (lights > 0) {
                due("drop(" + (lights - 1) + ")", x.drop(lights - 1), lights - 1);
            }
        }
    }

    private static void dropFirstMiddleLast() {
        CHECK.sentence("Promise 6: The numbers of the lights behind it become smaller by 1");
        for (int gone = 0; gone < 10; gone++) {
            EscapeLights x = tenLights();
            due("drop(" + gone + ")", x.drop(gone), 9);
            for (int i = 0; i < 9; i++) {
                due("light(" + i + ", 0)", x.light(i, 0), 10 + i + (i >= gone ? 1 : 0));
            }
            due("light(9, 0)", x.light(9, 0), BAD);
            due("undo()", x.undo(), 7);
            for (int i = 0; i < 10; i++) {
                due("light(" + i + ", 0) after undo()", x.light(i, 0), 10 + i);
            }
        }
    }

    private static void dropDownToNone() {
        CHECK.sentence("Promise 6: Returns how many lights are left: none");
        EscapeLights x = tenLights();
        for (int left = 9; left >= 0; left--) {
            due("drop(0)", x.drop(0), left);
            due("light(0, 0)", x.light(0, 0), left == 0 ? BAD : 20 - left);
        }
        due("drop(0) of none", x.drop(0), BAD);
        due("days()", x.days(), 0);
        due("add(5, 0, 0, 0)", x.add(5, 0, 0, 0), 0);
        due("light(0, 0)", x.light(0, 0), 5);
    }

    private static void dropTakesTheRestAlong() {
        CHECK.sentence("Promise 6: The numbers of the lights behind it become smaller: all that belongs to them comes along");
        EscapeLights x = new EscapeLights();
        x.add(1, 0, 0, 0);
        x.add(2, 1, 1, 1);
        x.add(3, 2, 2, 2);
        x.maintain(1, true);
        x.test(2, true);
        x.pass(1);
        due("drop(0)", x.drop(0), 2);
        int[] second = {2, 1, 1, 1, 1, 996, 112, 640, 6000 - 90 - 60, 26, 0, 90, 0};
        int[] third = {3, 2, 2, 2, 0, 1000, 150, 3600, 9000, 150, 1, NONE, 0};
        for (int what = 0; what <= 12; what++) {
            due("light(0, " + what + ")", x.light(0, what), second[what]);
            due("light(1, " + what + ")", x.light(1, what), third[what]);
        }
        due("told(10) stays", x.told(10), 1);
    }

    private static void maintainOfNone() {
        CHECK.sentence("Promise 7: BAD if there is no such light");
        EscapeLights x = tenLights();
        EscapeLights none = new EscapeLights();
        for (int i : Edge.noNumber(10)) {
            due("maintain(" + i + ", true)", x.maintain(i, true), BAD);
            due("maintain(" + i + ", false)", x.maintain(i, false), BAD);
            due("maintain(" + i + ", true) of none", none.maintain(i, true), BAD);
        }
        due("maintain(0, true) of none", none.maintain(0, true), BAD);
        due("told(13)", none.told(13), 0);
    }

    private static void maintainTwice() {
        CHECK.sentence("Promise 7: Returns 1 if it was before, otherwise 0");
        EscapeLights x = Edge.lightsAt(10);
        boolean[] on = {false, true, true, false, false, true};
        int[] before = {0, 0, 1, 1, 0, 0};
        for (int k = 0; k < on.length; k++) {
            due("maintain(0, " + on[k] + ")", x.maintain(0, on[k]), before[k]);
            due("light(0, 4)", x.light(0, 4), on[k] ? 1 : 0);
        }
        due("told(13)", x.told(13), 7);
    }

    private static void maintainTheTenth() {
        CHECK.sentence("Promise 7: Sets whether a light is maintained: this light and no other");
        for (int one = 0; one < 10; one++) {
            EscapeLights x = tenLights();
            due("maintain(" + one + ", true)", x.maintain(one, true), 0);
            x.pass(1);
            for (int i = 0; i < 10; i++) {
                due("light(" + i + ", 4)", x.light(i, 4), i == one ? 1 : 0);
                due("light(" + i + ", 8)", x.light(i, 8), i == one ? 2940 : 3000);
            }
        }
    }

    private static void routeOutside() {
        CHECK.sentence("Promise 8: from: 0 to 200; to: from to 200; BAD if an argument is out of range");
        EscapeLights x = new EscapeLights();
        for (int n : Edge.outside(0, 200)) {
            due("route(" + n + ", 200)", x.route(n, 200), BAD);
            due("route(0, " + n + ")", x.route(0, n), BAD);
            due("route(" + n + ", " + n + ")", x.route(n, n), BAD);
        }
        for (int to = 0; to < 200; to += 50) {
            due("route(" + (to + 1) + ", " + to + ")", x.route(to + 1, to), BAD);
            due("route(200, " + to + ")", x.route(200, to), BAD);
        }
        due("route(200, 199)", x.route(200, 199), BAD);
        due("route(201, 200)", x.route(201, 200), BAD);
        due("route(0, -1)", x.route(0, -1), BAD);
        due("told(2)", x.told(2), 0);
    }

    private static void routeAtTheEnds() {
        CHECK.sentence("Promise 8: from: its first place, 0 to 200; to: its last place, from to 200");
        int[] from = {0, 0, 0, 200, 199, 100};
        int[] to = {0, 1, 200, 200, 200, 100};
        EscapeLights x = new EscapeLights();
        for (int r = 0; r < 6; r++) {
            due("route(" + from[r] + ", " + to[r] + ")", x.route(from[r], to[r]), r);
            due("routeAt(" + r + ", 0)", x.routeAt(r, 0), from[r]);
            due("routeAt(" + r + ", 1)", x.routeAt(r, 1), to[r]);
            due("routeAt(" + r + ", 2)", x.routeAt(r, 2), to[r] - from[r] + 1);
        }
    }

    private static void routeTheSixth() {
        CHECK.sentence("Promise 8: Returns its number; FULL if there are 6 routes");
        EscapeLights x = new EscapeLights();
        for (int r = 0; r < 6; r++) {
            due("route(" + r + ", 9)", x.route(r, 9), r);
        }
        due("route(0, 200)", x.route(0, 200), FULL);
        due("route(1, 0): BAD comes first", x.route(1, 0), BAD);
        due("told(13)", x.told(13), 6);
        due("dropRoute(0)", x.dropRoute(0), 5);
        due("route(8, 9)", x.route(8, 9), 5);
        due("routeAt(4, 0)", x.routeAt(4, 0), 5);
        due("routeAt(5, 0)", x.routeAt(5, 0), 8);
        due("route(0, 0)", x.route(0, 0), FULL);
    }

    private static void dropRouteOfNone() {
        CHECK.sentence("Promise 9: BAD if there is no such route");
        for (int routes = 0; routes <= 6; routes++) {
            EscapeLights x = Edge.lightsAt(1, 2, 3, 4, 5, 6, 7, 8);
            for (int r = 0; r < routes; r++) {
                x.route(r, r);
            }
            for (int r : Edge.noNumber(routes)) {
                due("dropRoute(" + r + ") of " + routes, x.dropRoute(r), BAD);
            }
            due("told(2)", x.told(2), routes);
            if (routes > 0) {
                due("dropRoute(" + (routes - 1) + ")", x.dropRoute(routes - 1), routes - 1);
            }
        }
    }

    private static void dropRouteFirstMiddleLast() {
        CHECK.sentence("Promise 9: The numbers of the routes behind it become smaller by 1");
        for (int gone = 0; gone < 6; gone++) {
            EscapeLights x = new EscapeLights();
            for (int r = 0; r < 6; r++) {
                x.route(10 + r, 20 + 2 * r);
            }
            due("dropRoute(" + gone + ")", x.dropRoute(gone), 5);
            for (int r = 0; r < 5; r++) {
                int was = r + (r >= gone ? 1 : 0);
                due("routeAt(" + r + ", 0)", x.routeAt(r, 0), 10 + was);
                due("routeAt(" + r + ", 1)", x.routeAt(r, 1), 20 + 2 * was);
            }
            due("routeAt(5, 0)", x.routeAt(5, 0), BAD);
            due("undo()", x.undo(), 6);
            for (int r = 0; r < 6; r++) {
                due("routeAt(" + r + ", 0) after undo()", x.routeAt(r, 0), 10 + r);
                due("routeAt(" + r + ", 1) after undo()", x.routeAt(r, 1), 20 + 2 * r);
            }
        }
    }

    private static void dropRouteDownToNone() {
        CHECK.sentence("Promise 9: Returns how many routes are left: none");
        EscapeLights x = new EscapeLights();
        for (int r = 0; r < 6; r++) {
            x.route(r, 9);
        }
        for (int left = 5; left >= 0; left--) {
            due("dropRoute(0)", x.dropRoute(0), left);
            due("routeAt(0, 0)", x.routeAt(0, 0), left == 0 ? BAD : 6 - left);
        }
        due("dropRoute(0) of none", x.dropRoute(0), BAD);
        due("told(3)", x.told(3), 0);
    }

    private static void needOutside() {
        CHECK.sentence("Promise 10: BAD if minutes is out of range");
        EscapeLights x = new EscapeLights();
        for (int n : Edge.outside(1, 180)) {
            due("setNeed(" + n + ")", x.setNeed(n), BAD);
        }
        due("setNeed(0)", x.setNeed(0), BAD);
        due("told(4)", x.told(4), 60);
        due("told(13)", x.told(13), 0);
    }

    private static void needAtTheEnds() {
        CHECK.sentence("Promise 10: minutes: 1 to 180; Returns the need before");
        EscapeLights x = new EscapeLights();
        due("setNeed(1)", x.setNeed(1), 60);
        due("told(4)", x.told(4), 1);
        due("setNeed(180)", x.setNeed(180), 1);
        due("told(4)", x.told(4), 180);
        due("setNeed(180)", x.setNeed(180), 180);
        due("setNeed(2)", x.setNeed(2), 180);
        due("setNeed(179)", x.setNeed(179), 2);
        due("told(4)", x.told(4), 179);
    }

    private static void stockOutside() {
        CHECK.sentence("Promise 11: lamp: the kind, 0 to 2; many: 0 to 99; BAD if an argument is out of range");
        EscapeLights x = new EscapeLights();
        for (int n : Edge.outside(0, 2)) {
            due("setStock(" + n + ", 0)", x.setStock(n, 0), BAD);
            due("setStock(" + n + ", 99)", x.setStock(n, 99), BAD);
        }
        for (int n : Edge.outside(0, 99)) {
            for (int lamp = 0; lamp <= 2; lamp++) {
                due("setStock(" + lamp + ", " + n + ")", x.setStock(lamp, n), BAD);
            }
        }
        due("the stocks", x.told(6) + x.told(7) + x.told(8), 0);
        due("told(13)", x.told(13), 0);
    }

    private static void stockAtTheEnds() {
        CHECK.sentence("Promise 11: many: 0 to 99; Returns the stock before");
        for (int lamp = 0; lamp <= 2; lamp++) {
            EscapeLights x = new EscapeLights();
            due("setStock(" + lamp + ", 99)", x.setStock(lamp, 99), 0);
            due("told(" + (6 + lamp) + ")", x.told(6 + lamp), 99);
            due("setStock(" + lamp + ", 1)", x.setStock(lamp, 1), 99);
            due("setStock(" + lamp + ", 98)", x.setStock(lamp, 98), 1);
            due("setStock(" + lamp + ", 0)", x.setStock(lamp, 0), 98);
            due("told(" + (6 + lamp) + ")", x.told(6 + lamp), 0);
            due("setStock(" + lamp + ", 99)", x.setStock(lamp, 99), 0);
            due("the stocks", x.told(6) + x.told(7) + x.told(8), 99);
        }
    }

    private static void lightOfNone() {
        CHECK.sentence("Promise 12: BAD if there is no such light");
        for (int lights = 0; lights <= 10; lights++) {
            EscapeLights x = new EscapeLights();
            for (int i = 0; i < lights; i++) {
                x.add(50 + i, 0, 0, 0);
            }
            for (int i : Edge.noNumber(lights)) {
                due("light(" + i + ", 0) of " + lights, x.light(i, 0), BAD);
                due("light(" + i + ", 11) of " + lights, x.light(i, 11), BAD);
                due("light(" + i + ", 12) of " + lights, x.light(i, 12), BAD);
                due("light(" + i + ", 13) of " + lights, x.light(i, 13), BAD);
            }
            if (lights > 0) {
                due("light(" + (lights - 1) + ", 0)", x.light(lights - 1, 0), 49 + lights);
            }
        }
    }

    private static void lightOutside() {
        CHECK.sentence("Promise 12: BAD if what is not 0 to 12");
        EscapeLights x = Edge.lightsAt(10);
        for (int what : Edge.outside(0, 12)) {
            due("light(0, " + what + ")", x.light(0, what), BAD);
            due("light(1, " + what + ")", x.light(1, what), BAD);
        }
        due("light(0, 0)", x.light(0, 0), 10);
        due("light(0, 12)", x.light(0, 12), 0);
    }

    private static void lightProperties() {
        CHECK.sentence("Promise 12: 0 for its place to 12 for the day");
        EscapeLights x = new EscapeLights();
        x.add(199, 2, 0, 1);
        x.add(198, 3, 1, 2);
        x.route(195, 200);
        x.maintain(1, true);
        x.pass(25);
        x.test(2, true);
        x.pass(13);
        int[] first = {199, 2, 0, 1, 0, 1000, 75, 1800, 6000, 75, 1, NONE, 0};
        int[] second = {198, 3, 1, 2, 1, 996, 112, 528 + 13 * 112, 9000 - 38 * 60 - 90, 82, 1, 90, 1};
        for (int what = 0; what <= 12; what++) {
            due("light(0, " + what + ")", x.light(0, what), first[what]);
            due("light(1, " + what + ")", x.light(1, what), second[what]);
        }
    }

    private static void lightWithoutAResult() {
        CHECK.sentence("Promise 12: 11 for its result (NONE for none)");
        EscapeLights x = Edge.lightsAt(10, 10);
        due("light(0, 11)", x.light(0, 11), NONE);
        x.renew(0);
        x.test(1, true);
        due("light(0, 11) of a result of 0", x.light(0, 11), 0);
        due("light(1, 11)", x.light(1, 11), NONE);
        x.undo();
        due("light(0, 11)", x.light(0, 11), NONE);
    }

    private static void lightWithoutAPlan() {
        CHECK.sentence("Promise 12: 12 for the day on which it is tested (NONE if there is no plan)");
        EscapeLights x = Edge.lightsAt(10, 100);
        due("light(1, 12)", x.light(1, 12), 0);
        x.route(10, 10);
        due("light(0, 12)", x.light(0, 12), NONE);
        due("light(1, 12)", x.light(1, 12), NONE);
        x.add(10, 0, 0, 0);
        due("light(0, 12)", x.light(0, 12), 0);
        due("light(1, 12)", x.light(1, 12), 1);
        due("light(2, 12)", x.light(2, 12), 1);
    }
}
