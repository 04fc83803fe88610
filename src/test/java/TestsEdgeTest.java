/** The paragraph TESTS, and promise 17. */
public final class TestsEdgeTest {
    private static final Check CHECK = new Check();

    public static void main(String[] args) {
        burnsForTheEndurance();
        burnsForNothing();
        burnsNotLongerThanRated();
        lampIsLit();
        chargeDecreases();
        chargeIsCut();
        chargeThatFitsStays();
        passesAtTheRatedTime();
        failsAMinuteBelow();
        failsAMinuteBelowByCharge();
        resultOfNone();
        resultOfZero();
        resultStays();
        emptySet();
        setOfLightsThatAreNotThere();
        setOfAllLights();
        setNotAllowed();
        setAllowedJustSo();
        forced();
        allOfTheSetAndNoOther();
        CHECK.end();
    }

    private static void due(String call, long got, long want) {
        CHECK.due(call, got, want);
    }

    private static EscapeLights one(int battery) {
        EscapeLights x = new EscapeLights();
        x.add(10, 0, battery, 0);
        return x;
    }

    private static void burnsForTheEndurance() {
        CHECK.sentence("each of them burns for as many minutes as its endurance when the test begins");
        EscapeLights x = one(0);
        x.renew(0);
        x.pass(19);
        due("light(0, 9)", x.light(0, 9), 59);
        due("test(1, true)", x.test(1, true), 0);
        due("light(0, 11)", x.light(0, 11), 59);
        due("light(0, 7): 1425 - 59 * 24", x.light(0, 7), 9);
        due("light(0, 8)", x.light(0, 8), 2941);
        EscapeLights y = one(0);
        y.renew(0);
        y.pass(1);
        y.test(1, true);
        due("light(0, 11): 75 / 24", y.light(0, 11), 3);
        due("light(0, 7): 75 - 3 * 24", y.light(0, 7), 3);
    }

    private static void burnsForNothing() {
        CHECK.sentence("(perhaps 0)");
        EscapeLights x = one(0);
        x.renew(0);
        due("test(1, true)", x.test(1, true), 0);
        due("light(0, 11)", x.light(0, 11), 0);
        due("light(0, 8)", x.light(0, 8), 3000);
        due("light(0, 7)", x.light(0, 7), 0);
        due("light(0, 5)", x.light(0, 5), 995);
        due("told(10)", x.told(10), 0);
        due("told(11)", x.told(11), 1);
    }

    private static void burnsNotLongerThanRated() {
        CHECK.sentence("but not longer than its rated time");
        int[] rated = {60, 90, 120, 180};
        for (int battery = 0; battery <= 3; battery++) {
            EscapeLights x = one(battery);
            due("test(1, true)", x.test(1, true), 1);
            due("light(0, 11)", x.light(0, 11), rated[battery]);
        }
        EscapeLights y = one(0);
        y.test(1, true);
        y.pass(15);
        due("light(0, 9)", y.light(0, 9), 61);
        due("test(1, true) with a minute more than needed", y.test(1, true), 1);
        due("light(0, 11)", y.light(0, 11), 60);
        due("light(0, 7): 1470 - 1440", y.light(0, 7), 30);
    }

    private static void lampIsLit() {
        CHECK.sentence("the lamp is lit for so many minutes more");
        int[] left = {2940, 2910, 2880, 2820};
        for (int battery = 0; battery <= 3; battery++) {
            EscapeLights x = one(battery);
            x.test(1, true);
            due("light(0, 8)", x.light(0, 8), left[battery]);
        }
        EscapeLights y = one(0);
        y.maintain(0, true);
        y.pass(49);
        y.test(1, true);
        due("light(0, 8): 60 - 60", y.light(0, 8), 0);
        due("told(9)", y.told(9), 1);
        y.pass(24);
        y.test(1, true);
        due("light(0, 11) of a lamp that is burnt out", y.light(0, 11), 0);
        due("light(0, 8)", y.light(0, 8), 0);
    }

    private static void chargeDecreases() {
        CHECK.sentence("the charge decreases by 24 times as many");
        int[] left = {360, 528, 720, 1080};
        for (int battery = 0; battery <= 3; battery++) {
            EscapeLights x = one(battery);
            x.test(1, true);
            due("light(0, 7)", x.light(0, 7), left[battery]);
        }
        EscapeLights y = one(0);
        y.test(1, true);
        y.test(1, true);
        due("light(0, 7): 360 - 15 * 24", y.light(0, 7), 0);
    }

    /** A lamp that is burnt out leaves the battery full, until it wears. */
    private static void chargeIsCut() {
        CHECK.sentence("and a charge that is greater than 24 times the capacity then becomes this");
        int[] capacity = {74, 112, 149, 224};
        for (int battery = 0; battery <= 3; battery++) {
            EscapeLights x = one(battery);
            x.maintain(0, true);
            x.pass(50);
            due("light(0, 7)", x.light(0, 7), new int[] {1800, 2688, 3600, 5400}[battery]);
            x.test(1, true);
            due("light(0, 6)", x.light(0, 6), capacity[battery]);
            due("light(0, 7) of class " + battery, x.light(0, 7), 24 * capacity[battery]);
        }
        EscapeLights y = one(1);
        y.maintain(0, true);
        y.pass(50);
        Edge.test(y, 1, 2);
        due("light(0, 7): 24 * 111", y.light(0, 7), 2664);
    }

    private static void chargeThatFitsStays() {
        CHECK.sentence("a charge that is greater than 24 times the capacity then becomes this: one that is not stays");
        EscapeLights x = one(0);
        x.maintain(0, true);
        x.pass(50);
        x.test(1, true);
        due("light(0, 7)", x.light(0, 7), 1776);
        x.test(1, true);
        due("light(0, 5)", x.light(0, 5), 990);
        due("light(0, 6): 74.25", x.light(0, 6), 74);
        due("light(0, 7) of the same capacity", x.light(0, 7), 1776);
        x.test(1, true);
        due("light(0, 7): 73.875", x.light(0, 7), 24 * 73);
        x.renew(0);
        x.pass(23);
        x.test(1, true);
        due("light(0, 7) below 1776", x.light(0, 7), 1725);
    }

    private static void passesAtTheRatedTime() {
        CHECK.sentence("The light passes if it has burnt for its rated time: with an endurance that is just this");
        // lamps with a rest of 60, 90, 120 and 180 minutes
        int[] hours = {49, 47, 48, 47};
        int[] rated = {60, 90, 120, 180};
        for (int battery = 0; battery <= 3; battery++) {
            EscapeLights x = one(battery);
            if (battery == 1) {
                x.test(1, true);
            }
            x.maintain(0, true);
            x.pass(hours[battery]);
            due("light(0, 9)", x.light(0, 9), rated[battery]);
            due("test(1, true) of class " + battery, x.test(1, true), 1);
            due("light(0, 11)", x.light(0, 11), rated[battery]);
            due("told(10)", x.told(10), battery == 1 ? 2 : 1);
            due("told(11)", x.told(11), 0);
        }
        EscapeLights y = one(0);
        Edge.test(y, 1, 3);
        y.pass(20);
        due("light(0, 9): 1460 / 24", y.light(0, 9), 60);
        due("test(1, true) by charge", y.test(1, true), 1);
        due("light(0, 7)", y.light(0, 7), 20);
    }

    private static void failsAMinuteBelow() {
        CHECK.sentence("The light passes if it has burnt for its rated time: not a minute below, by its lamp");
        EscapeLights x = one(2);
        x.renew(0);
        x.pass(23);
        x.test(1, true);
        x.pass(6);
        x.test(1, true);
        x.maintain(0, true);
        x.pass(45);
        due("light(0, 9)", x.light(0, 9), 119);
        due("told(10)", x.told(10), 1);
        due("test(1, true) of class 2", x.test(1, true), 0);
        due("light(0, 11)", x.light(0, 11), 119);
        due("told(10)", x.told(10), 1);
        due("told(11)", x.told(11), 2);
        EscapeLights y = one(3);
        y.renew(0);
        y.test(1, true);
        y.pass(13);
        y.test(1, true);
        y.maintain(0, true);
        y.pass(45);
        due("light(0, 9)", y.light(0, 9), 179);
        due("test(1, true) of class 3", y.test(1, true), 0);
        due("light(0, 11)", y.light(0, 11), 179);
        due("told(11)", y.told(11), 3);
    }

    private static void failsAMinuteBelowByCharge() {
        CHECK.sentence("The light passes if it has burnt for its rated time: not a minute below, by its charge");
        EscapeLights x = one(0);
        x.renew(0);
        x.pass(19);
        due("light(0, 9)", x.light(0, 9), 59);
        due("test(1, true) of class 0", x.test(1, true), 0);
        due("told(11)", x.told(11), 1);
        EscapeLights y = one(1);
        Edge.test(y, 1, 11);
        y.pass(20);
        due("light(0, 9)", y.light(0, 9), 89);
        due("told(10)", y.told(10), 1);
        due("test(1, true) of class 1", y.test(1, true), 0);
        due("light(0, 11)", y.light(0, 11), 89);
        due("told(10)", y.told(10), 1);
        due("told(11)", y.told(11), 11);
    }

    private static void resultOfNone() {
        CHECK.sentence("Its result is the number of minutes for which it has burnt (none as long as it was not tested)");
        EscapeLights x = Edge.lightsAt(10, 10);
        due("light(0, 11)", x.light(0, 11), -9);
        x.pass(1);
        x.renew(0);
        x.maintain(0, true);
        x.setStock(0, 1);
        x.swap(0, 0);
        due("light(0, 11) of a light that was not tested", x.light(0, 11), -9);
        x.test(2, true);
        due("light(0, 11)", x.light(0, 11), -9);
        due("light(1, 11)", x.light(1, 11), 60);
        x.drop(1);
        x.add(10, 0, 0, 0);
        due("light(1, 11) of a light in the place of a dropped one", x.light(1, 11), -9);
    }

    private static void resultOfZero() {
        CHECK.sentence("Its result is the number of minutes for which it has burnt: 0 is a result");
        EscapeLights x = one(0);
        x.renew(0);
        x.test(1, true);
        due("light(0, 11)", x.light(0, 11), 0);
        x.pass(24);
        due("light(0, 11)", x.light(0, 11), 0);
        x.test(1, true);
        due("light(0, 11) of the latest test", x.light(0, 11), 60);
    }

    private static void resultStays() {
        CHECK.sentence("a swap of its lamp does not change it");
        EscapeLights x = one(0);
        x.test(1, true);
        x.setStock(0, 2);
        x.setStock(2, 1);
        x.swap(0, 0);
        due("light(0, 11) after swap(0, 0)", x.light(0, 11), 60);
        x.swap(0, 2);
        due("light(0, 11) after swap(0, 2)", x.light(0, 11), 60);
        x.pass(1);
        x.maintain(0, true);
        x.pass(1);
        due("swapAll(9000)", x.swapAll(9000), 0);
        x.setStock(2, 1);
        due("swapAll(9000)", x.swapAll(9000), 1);
        due("light(0, 11) after swapAll(9000)", x.light(0, 11), 60);
        x.renew(0);
        due("light(0, 11) after renew(0)", x.light(0, 11), 60);
    }

    private static void emptySet() {
        CHECK.sentence("Promise 17: BAD if set is empty");
        EscapeLights x = one(0);
        due("test(0, true)", x.test(0, true), -1);
        due("test(0, false)", x.test(0, false), -1);
        EscapeLights none = new EscapeLights();
        due("test(0, true) without lights", none.test(0, true), -1);
        due("test(0, false) without lights", none.test(0, false), -1);
        due("test(1, true) without lights", none.test(1, true), -1);
        due("told(13)", none.told(13), 0);
    }

    private static void setOfLightsThatAreNotThere() {
        CHECK.sentence("Promise 17: BAD if set is negative or contains a light that is not there");
        for (int lights = 0; lights <= 10; lights++) {
            EscapeLights x = new EscapeLights();
            for (int i = 0; i < lights; i++) {
                x.add(10, 0, 0, 0);
            }
            for (int set : Edge.noSet(lights)) {
                due("test(" + set + ", true) of " + lights, x.test(set, true), -1);
                due("test(" + set + ", false) of " + lights, x.test(set, false), -1);
            }
            due("told(11)", x.told(11), 0);
            due("told(10)", x.told(10), 0);
            if (lights > 0) {
                due("test(" + (1 << lights - 1) + ", true)", x.test(1 << lights - 1, true), 1);
                due("light(" + (lights - 1) + ", 11)", x.light(lights - 1, 11), 60);
            }
        }
    }

    private static void setOfAllLights() {
        CHECK.sentence("Promise 17: Returns how many of them pass: all of 10");
        EscapeLights x = Edge.lightsAt(1, 2, 3, 4, 5, 6, 7, 8, 9, 10);
        due("test(1023, false)", x.test(1023, false), 10);
        due("told(10)", x.told(10), 10);
        due("test(1023, false)", x.test(1023, false), 0);
        due("told(10)", x.told(10), 10);
        due("told(11)", x.told(11), 10);
        x.pass(24);
        x.renew(4);
        due("test(1023, false)", x.test(1023, false), 9);
        due("light(4, 11)", x.light(4, 11), 0);
        due("told(10)", x.told(10), 19);
        due("told(11)", x.told(11), 11);
    }

    private static void setNotAllowed() {
        CHECK.sentence("Promise 17: STATE if the set is not allowed, and force is false");
        EscapeLights x = Edge.lightsAt(10, 10, 50);
        x.route(10, 10);
        due("test(3, false)", x.test(3, false), -2);
        due("test(7, false)", x.test(7, false), -2);
        due("told(13)", x.told(13), 4);
        due("test(5, false)", x.test(5, false), 2);
        due("test(2, false) of the last light that is ready", x.test(2, false), -2);
        due("test(1, false) of one that is not ready", x.test(1, false), 0);
    }

    private static void setAllowedJustSo() {
        CHECK.sentence("A set of lights is allowed if each route that is safe (with all lights) is covered by the rest");
        EscapeLights x = Edge.lightsAt(10, 10);
        x.route(10, 14);
        due("test(3, false) of a safe route", x.test(3, false), -2);
        x.dropRoute(0);
        x.route(10, 15);
        due("test(3, false) of a route that is not safe", x.test(3, false), 2);
        x.dropRoute(0);
        x.route(10, 14);
        due("test(3, false) when none is ready", x.test(3, false), 0);
    }

    private static void forced() {
        CHECK.sentence("force: whether they are tested though the set is not allowed");
        EscapeLights x = Edge.lightsAt(10, 10);
        x.route(10, 14);
        due("test(3, true) though it is not allowed", x.test(3, true), 2);
        due("light(0, 11)", x.light(0, 11), 60);
        due("light(1, 11)", x.light(1, 11), 60);
        due("test(3, true) though force is not needed", x.test(3, true), 0);
    }

    private static void allOfTheSetAndNoOther() {
        CHECK.sentence("When a set of lights is tested, each of them burns: bit i for light i");
        for (int i = 0; i < 10; i++) {
            EscapeLights x = Edge.lightsAt(1, 2, 3, 4, 5, 6, 7, 8, 9, 10);
            due("test(" + (1 << i) + ", true)", x.test(1 << i, true), 1);
            for (int k = 0; k < 10; k++) {
                due("light(" + k + ", 11)", x.light(k, 11), k == i ? 60 : -9);
                due("light(" + k + ", 5)", x.light(k, 5), k == i ? 995 : 1000);
            }
            EscapeLights y = Edge.lightsAt(1, 2, 3, 4, 5, 6, 7, 8, 9, 10);
            due("test(all but " + i + ", true)", y.test(1023 - (1 << i), true), 9);
            for (int k = 0; k < 10; k++) {
                due("light(" + k + ", 11)", y.light(k, 11), k == i ? -9 : 60);
            }
        }
    }
}
