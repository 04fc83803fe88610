/** The paragraph ROUTES, and promises 19 to 21. */
public final class RoutesEdgeTest {
    private static final Check CHECK = new Check();

    public static void main(String[] args) {
        sixRoutes();
        allPlacesFromOneToAnother();
        routeOfOnePlace();
        routeOfAllPlaces();
        eachPlaceIsReached();
        safeByLightsThatAreReady();
        safeWithoutLights();
        lastsTheSmallestOfTheGreatest();
        lastsNothing();
        noSuchRoute();
        noSuchProperty();
        placesThatNoneReaches();
        withoutACircuit();
        circuitWithoutLights();
        theFirstCircuit();
        lastCircuit();
        lastsWithTheEmptySet();
        lastsWithSets();
        lastsWithSetsThatAreNotThere();
        lastsWithLightsThatAreNotReady();
        reachingFirstAndLastPlace();
        reachingOutside();
        reachingNone();
        reachingAll();
        reachingOnlyReadyOnes();
        CHECK.end();
    }

    private static void due(String call, long got, long want) {
        CHECK.due(call, got, want);
    }

    private static void dueOf(EscapeLights x, int r, int... want) {
        for (int what = 0; what <= 6; what++) {
            due("routeAt(" + r + ", " + what + ")", x.routeAt(r, what), want[what]);
        }
    }

    private static void sixRoutes() {
        CHECK.sentence("There are at most 6 routes, numbered from 0 in the order in which they were added (none at first)");
        EscapeLights x = new EscapeLights();
        due("told(2)", x.told(2), 0);
        due("routeAt(0, 0) of none", x.routeAt(0, 0), -1);
        for (int r = 0; r < 6; r++) {
            due("route(" + (60 - r) + ", 70)", x.route(60 - r, 70), r);
            due("told(2)", x.told(2), r + 1);
            due("routeAt(" + (r + 1) + ", 0)", x.routeAt(r + 1, 0), -1);
        }
        due("route(0, 0) of a 7th", x.route(0, 0), -3);
        for (int r = 0; r < 6; r++) {
            due("routeAt(" + r + ", 0)", x.routeAt(r, 0), 60 - r);
            due("routeAt(" + r + ", 1)", x.routeAt(r, 1), 70);
        }
        due("told(2)", x.told(2), 6);
    }

    private static void allPlacesFromOneToAnother() {
        CHECK.sentence("A route consists of all places from one to another one");
        EscapeLights x = Edge.lightsAt(50);
        x.route(46, 54);
        x.route(45, 54);
        x.route(46, 55);
        x.route(45, 55);
        dueOf(x, 0, 46, 54, 0, 1, 75, 0, 0);
        dueOf(x, 1, 45, 54, 1, 0, 0, 0, 0);
        dueOf(x, 2, 46, 55, 1, 0, 0, 0, 0);
        dueOf(x, 3, 45, 55, 2, 0, 0, 0, 0);
    }

    private static void routeOfOnePlace() {
        CHECK.sentence("A route consists of all places from one to another one: of one place");
        int[] places = {0, 100, 200};
        for (int place : places) {
            EscapeLights x = Edge.lightsAt(place);
            due("route(" + place + ", " + place + ")", x.route(place, place), 0);
            dueOf(x, 0, place, place, 0, 1, 75, 0, 0);
            x.drop(0);
            dueOf(x, 0, place, place, 1, 0, 0, 0, 0);
        }
    }

    /** Lights of the greatest reach, 19 places apart, the last one at 191. */
    private static void routeOfAllPlaces() {
        CHECK.sentence("A route consists of all places from one to another one: of all of the building");
        EscapeLights x = new EscapeLights();
        for (int i = 0; i < 10; i++) {
            x.add(9 + 20 * i, i % 4, 3, 2);
        }
        x.route(0, 200);
        // 19 places each, and one between two of them; the last light reaches 180 to 198
        dueOf(x, 0, 0, 200, 11, 0, 0, 0, 0);
        EscapeLights y = new EscapeLights();
        for (int i = 0; i < 10; i++) {
            y.add(9 + 19 * i, i % 4, 3, 2);
        }
        y.route(0, 189);
        y.route(0, 190);
        y.route(0, 200);
        dueOf(y, 0, 0, 189, 0, 1, 225, 0, 0);
        dueOf(y, 1, 0, 190, 1, 0, 0, 0, 0);
        dueOf(y, 2, 0, 200, 11, 0, 0, 0, 0);
    }

    private static void eachPlaceIsReached() {
        CHECK.sentence("It is covered by some lights if each of its places is reached by one of them");
        EscapeLights x = Edge.lightsAt(10, 19);
        x.route(6, 23);
        dueOf(x, 0, 6, 23, 0, 1, 75, 0, 0);
        EscapeLights y = Edge.lightsAt(10, 20);
        y.route(6, 24);
        due("a place between them", y.reaching(15, false), 0);
        dueOf(y, 0, 6, 24, 1, 0, 0, 0, 0);
        y.route(6, 14);
        y.route(16, 24);
        dueOf(y, 1, 6, 14, 0, 1, 75, 0, 0);
        dueOf(y, 2, 16, 24, 0, 1, 75, 0, 0);
    }

    private static void safeByLightsThatAreReady() {
        CHECK.sentence("It is safe if it is covered by all lights that are ready");
        EscapeLights x = new EscapeLights();
        x.add(10, 0, 0, 0);
        x.add(19, 1, 1, 0);
        x.route(6, 23);
        x.setNeed(75);
        dueOf(x, 0, 6, 23, 0, 1, 75, 0, 0);
        x.setNeed(76);
        dueOf(x, 0, 6, 23, 9, 0, 75, 0, 0);
        x.setNeed(112);
        due("told(3)", x.told(3), 0);
        x.route(15, 23);
        dueOf(x, 1, 15, 23, 0, 1, 112, 0, 1);
        due("told(3)", x.told(3), 1);
        x.setNeed(113);
        dueOf(x, 1, 15, 23, 9, 0, 112, 0, 1);
        due("told(3)", x.told(3), 0);
    }

    private static void safeWithoutLights() {
        CHECK.sentence("It is safe if it is covered by all lights that are ready: without lights");
        EscapeLights x = new EscapeLights();
        x.route(7, 7);
        x.route(0, 200);
        dueOf(x, 0, 7, 7, 1, 0, 0, 0, 0);
        dueOf(x, 1, 0, 200, 201, 0, 0, 0, 0);
        due("told(3)", x.told(3), 0);
        due("lasts(0, 0)", x.lasts(0, 0), 0);
    }

    private static void lastsTheSmallestOfTheGreatest() {
        CHECK.sentence("the smallest one, over its places, of the greatest endurances of those of the lights that reach it");
        EscapeLights x = new EscapeLights();
        x.add(10, 0, 0, 0);
        x.add(11, 1, 3, 0);
        x.add(18, 2, 1, 0);
        // 75 minutes at 6, 225 at 7 to 15, 112 at 16 to 22
        x.route(6, 22);
        x.route(7, 22);
        x.route(7, 15);
        x.route(16, 16);
        x.route(15, 16);
        dueOf(x, 0, 6, 22, 0, 1, 75, 0, 0);
        dueOf(x, 1, 7, 22, 0, 1, 112, 0, 2);
        dueOf(x, 2, 7, 15, 0, 1, 225, 75, 1);
        dueOf(x, 3, 16, 16, 0, 1, 112, 0, 2);
        dueOf(x, 4, 15, 16, 0, 1, 112, 0, 2);
    }

    private static void lastsNothing() {
        CHECK.sentence("(0 for a place that none of them reaches)");
        EscapeLights x = Edge.lightsAt(10, 10);
        x.route(6, 15);
        due("lasts(0, 3) with a place that none reaches", x.lasts(0, 3), 0);
        x.route(5, 14);
        due("lasts(1, 3) with a place that none reaches", x.lasts(1, 3), 0);
        x.route(6, 14);
        due("lasts(2, 3)", x.lasts(2, 3), 75);
        x.renew(0);
        x.renew(1);
        due("lasts(2, 3) with endurances of 0", x.lasts(2, 3), 0);
    }

    private static void noSuchRoute() {
        CHECK.sentence("Promise 19: BAD if there is no such route");
        EscapeLights x = Edge.lightsAt(10);
        for (int routes = 0; routes <= 6; routes++) {
            for (int r : Edge.noNumber(routes)) {
                due("routeAt(" + r + ", 0) of " + routes, x.routeAt(r, 0), -1);
                due("routeAt(" + r + ", 6) of " + routes, x.routeAt(r, 6), -1);
            }
            x.route(routes, 10 + routes);
            if (routes < 6) {
                due("routeAt(" + routes + ", 1)", x.routeAt(routes, 1), 10 + routes);
            }
        }
    }

    private static void noSuchProperty() {
        CHECK.sentence("Promise 19: BAD if what is not 0 to 6");
        EscapeLights x = Edge.lightsAt(10);
        x.route(6, 14);
        for (int what : Edge.outside(0, 6)) {
            due("routeAt(0, " + what + ")", x.routeAt(0, what), -1);
            due("routeAt(1, " + what + ")", x.routeAt(1, what), -1);
        }
        dueOf(x, 0, 6, 14, 0, 1, 75, 0, 0);
    }

    private static void placesThatNoneReaches() {
        CHECK.sentence("Promise 19: 2 for how many of its places no light that is ready reaches");
        EscapeLights x = Edge.lightsAt(0, 200);
        x.route(0, 200);
        due("routeAt(0, 2)", x.routeAt(0, 2), 191);
        x.renew(0);
        due("routeAt(0, 2) when one is not ready", x.routeAt(0, 2), 196);
        x.renew(1);
        due("routeAt(0, 2) when none is ready", x.routeAt(0, 2), 201);
        x.route(4, 4);
        x.pass(20);
        due("routeAt(1, 2)", x.routeAt(1, 2), 0);
        x.route(5, 5);
        due("routeAt(2, 2)", x.routeAt(2, 2), 1);
    }

    private static void withoutACircuit() {
        CHECK.sentence("Promise 19: 5 for the smallest one of the numbers of minutes without one of the circuits 0 to 3");
        for (int circuit = 0; circuit <= 3; circuit++) {
            EscapeLights x = new EscapeLights();
            x.add(10, circuit, 3, 0);
            x.add(10, (circuit + 1) % 4, 0, 0);
            x.route(10, 10);
            dueOf(x, 0, 10, 10, 0, 1, 225, 75, circuit);
            x.add(10, circuit, 2, 0);
            dueOf(x, 0, 10, 10, 0, 1, 225, 75, circuit);
            x.drop(1);
            dueOf(x, 0, 10, 10, 0, 1, 225, 0, circuit);
        }
    }

    private static void circuitWithoutLights() {
        CHECK.sentence("Promise 19: all lights but those of one of the circuits (also one without lights)");
        EscapeLights x = new EscapeLights();
        x.add(10, 1, 0, 0);
        x.add(10, 2, 0, 0);
        x.add(10, 3, 0, 0);
        x.route(10, 10);
        dueOf(x, 0, 10, 10, 0, 1, 75, 75, 0);
        EscapeLights none = new EscapeLights();
        none.route(10, 10);
        dueOf(none, 0, 10, 10, 1, 0, 0, 0, 0);
        EscapeLights far = new EscapeLights();
        far.add(100, 3, 0, 0);
        far.route(10, 10);
        dueOf(far, 0, 10, 10, 1, 0, 0, 0, 0);
    }

    private static void theFirstCircuit() {
        CHECK.sentence("Promise 19: 6 for the first circuit without which it lasts so long");
        EscapeLights x = new EscapeLights();
        for (int circuit = 3; circuit >= 0; circuit--) {
            x.add(10, circuit, 0, 0);
        }
        x.route(10, 10);
        due("routeAt(0, 6) of four alike", x.routeAt(0, 6), 0);
        EscapeLights y = new EscapeLights();
        // without circuit 1 place 6 is left, without circuit 3 place 30
        y.add(10, 1, 0, 0);
        y.add(19, 2, 0, 0);
        y.add(19, 0, 0, 0);
        y.add(28, 3, 0, 0);
        y.route(6, 30);
        dueOf(y, 0, 6, 30, 0, 1, 75, 0, 1);
        y.dropRoute(0);
        y.route(16, 30);
        dueOf(y, 0, 16, 30, 0, 1, 75, 0, 3);
    }

    private static void lastCircuit() {
        CHECK.sentence("Promise 19: one of the circuits 0 to 3: the last one");
        EscapeLights x = new EscapeLights();
        x.add(10, 3, 1, 0);
        x.add(10, 0, 0, 0);
        x.route(10, 10);
        dueOf(x, 0, 10, 10, 0, 1, 112, 75, 3);
        x.test(1, true);
        dueOf(x, 0, 10, 10, 0, 1, 75, 22, 0);
    }

    private static void lastsWithTheEmptySet() {
        CHECK.sentence("Promise 20: set: the lights, as a bit mask, perhaps empty");
        EscapeLights x = Edge.lightsAt(10);
        x.route(10, 10);
        due("lasts(0, 0)", x.lasts(0, 0), 0);
        due("lasts(0, 1)", x.lasts(0, 1), 75);
        EscapeLights none = new EscapeLights();
        none.route(10, 10);
        due("lasts(0, 0) without lights", none.lasts(0, 0), 0);
        due("lasts(0, 1) without lights", none.lasts(0, 1), -1);
    }

    private static void lastsWithSets() {
        CHECK.sentence("Promise 20: Returns the minutes with the lights of the set, up to the tenth");
        EscapeLights x = new EscapeLights();
        for (int i = 0; i < 10; i++) {
            x.add(10 + i, 0, 0, 0);
        }
        x.route(14, 14);
        for (int i = 0; i < 10; i++) {
            due("lasts(0, " + (1 << i) + ")", x.lasts(0, 1 << i), i <= 8 ? 75 : 0);
        }
        due("lasts(0, 1023)", x.lasts(0, 1023), 75);
        x.route(23, 23);
        due("lasts(1, 511)", x.lasts(1, 511), 0);
        due("lasts(1, 512)", x.lasts(1, 512), 75);
        due("lasts(1, 1023)", x.lasts(1, 1023), 75);
    }

    private static void lastsWithSetsThatAreNotThere() {
        CHECK.sentence("Promise 20: BAD if there is no such route, or set is negative or contains a light that is not there");
        for (int lights = 0; lights <= 10; lights++) {
            EscapeLights x = new EscapeLights();
            for (int i = 0; i < lights; i++) {
                x.add(10, 0, 0, 0);
            }
            x.route(10, 10);
            for (int set : Edge.noSet(lights)) {
                due("lasts(0, " + set + ") with " + lights, x.lasts(0, set), -1);
            }
            due("lasts of all " + lights, x.lasts(0, (1 << lights) - 1), lights == 0 ? 0 : 75);
            for (int r : Edge.noNumber(1)) {
                due("lasts(" + r + ", 0)", x.lasts(r, 0), -1);
            }
        }
    }

    private static void lastsWithLightsThatAreNotReady() {
        CHECK.sentence("A route lasts, with some lights: those that are not ready count too");
        EscapeLights x = Edge.lightsAt(10);
        x.route(10, 10);
        x.setNeed(180);
        due("lasts(0, 1) below the need", x.lasts(0, 1), 75);
        due("routeAt(0, 4) below the need", x.routeAt(0, 4), 75);
        x.renew(0);
        due("lasts(0, 1) of an empty battery", x.lasts(0, 1), 0);
        x.pass(1);
        due("lasts(0, 1) an hour later", x.lasts(0, 1), 3);
    }

    private static void reachingFirstAndLastPlace() {
        CHECK.sentence("Promise 21: place: 0 to 200");
        EscapeLights x = Edge.lightsAt(0, 4, 5, 195, 196, 200);
        due("reaching(0, false)", x.reaching(0, false), 2);
        due("reaching(0, true)", x.reaching(0, true), 2);
        due("reaching(200, false)", x.reaching(200, false), 2);
        due("reaching(200, true)", x.reaching(200, true), 2);
        due("reaching(1, true)", x.reaching(1, true), 3);
        due("reaching(199, true)", x.reaching(199, true), 3);
    }

    private static void reachingOutside() {
        CHECK.sentence("Promise 21: BAD if place is out of range");
        EscapeLights x = Edge.lightsAt(0, 200);
        for (int place : Edge.outside(0, 200)) {
            due("reaching(" + place + ", false)", x.reaching(place, false), -1);
            due("reaching(" + place + ", true)", x.reaching(place, true), -1);
        }
    }

    private static void reachingNone() {
        CHECK.sentence("Promise 21: Returns how many there are: none");
        EscapeLights x = new EscapeLights();
        due("reaching(0, false) without lights", x.reaching(0, false), 0);
        due("reaching(200, true) without lights", x.reaching(200, true), 0);
        x.add(100, 0, 0, 0);
        due("reaching(95, false)", x.reaching(95, false), 0);
        due("reaching(96, false)", x.reaching(96, false), 1);
        due("reaching(104, false)", x.reaching(104, false), 1);
        due("reaching(105, false)", x.reaching(105, false), 0);
    }

    private static void reachingAll() {
        CHECK.sentence("Promise 21: Returns how many there are: all of 10");
        EscapeLights x = Edge.lightsAt(7, 7, 7, 7, 7, 7, 7, 7, 7, 7);
        due("reaching(7, false)", x.reaching(7, false), 10);
        due("reaching(11, true)", x.reaching(11, true), 10);
        due("reaching(12, true)", x.reaching(12, true), 0);
        x.renew(9);
        due("reaching(3, true)", x.reaching(3, true), 9);
        due("reaching(3, false)", x.reaching(3, false), 10);
    }

    private static void reachingOnlyReadyOnes() {
        CHECK.sentence("Promise 21: ready: whether only those that are ready count");
        EscapeLights x = new EscapeLights();
        x.add(10, 0, 0, 0);
        x.add(10, 0, 1, 0);
        x.setNeed(75);
        due("reaching(10, true) at the need", x.reaching(10, true), 2);
        x.setNeed(76);
        due("reaching(10, true) above it", x.reaching(10, true), 1);
        due("reaching(10, false)", x.reaching(10, false), 2);
        x.maintain(1, true);
        x.pass(50);
        due("told(9)", x.told(9), 1);
        due("reaching(10, true) of a lamp that is burnt out", x.reaching(10, true), 0);
        due("reaching(10, false) of a lamp that is burnt out", x.reaching(10, false), 2);
    }
}
