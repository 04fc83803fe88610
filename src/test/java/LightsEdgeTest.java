/** The paragraphs LIGHTS and STOCK. */
public final class LightsEdgeTest {
    private static final Check CHECK = new Check();

    public static void main(String[] args) {
        tenLights();
        notMaintainedAtFirst();
        ratedTimes();
        wears();
        reaches();
        reachesAtTheEndsOfTheBuilding();
        lives();
        healthWhenAdded();
        healthIsAtLeastZero();
        healthOfOneAndLess();
        capacityOfLowHealth();
        capacityJustBelowAMinuteMore();
        fullWhenAdded();
        chargeIsAtLeastZero();
        chargeIsAtMostFull();
        restWhenAdded();
        restIsAtLeastZero();
        burntOutAtZero();
        enduranceIsTheSmallerOne();
        readyAtTheNeed();
        readyAtTheLeastNeed();
        readyAtTheGreatestNeed();
        needAtFirst();
        stockAtFirst();
        stockFromZeroTo99();
        CHECK.end();
    }

    private static void due(String call, long got, long want) {
        CHECK.due(call, got, want);
    }

    private static EscapeLights one(int battery, int lamp) {
        EscapeLights x = new EscapeLights();
        x.add(100, 0, battery, lamp);
        return x;
    }

    /** A light of which the lamp has this rest, 1 or more, and the battery endures longer. */
    private static EscapeLights restOfOne() {
        EscapeLights x = one(0, 0);
        x.maintain(0, true);
        x.pass(30);
        x.renew(0);
        x.pass(19);
        x.maintain(0, false);
        x.test(1, true);
        x.pass(24);
        return x;
    }

    private static void tenLights() {
        CHECK.sentence("There are at most 10 lights, numbered from 0 in the order in which they were added (none at first)");
        EscapeLights x = new EscapeLights();
        due("told(0)", x.told(0), 0);
        due("light(0, 0) of none", x.light(0, 0), -1);
        for (int i = 0; i < 10; i++) {
            due("light(" + i + ", 0) before it is added", x.light(i, 0), -1);
            due("add(" + (30 - i) + ", 0, 0, 0)", x.add(30 - i, 0, 0, 0), i);
            due("told(0)", x.told(0), i + 1);
        }
        for (int i = 0; i < 10; i++) {
            due("light(" + i + ", 0)", x.light(i, 0), 30 - i);
        }
        due("add(0, 0, 0, 0) of an 11th", x.add(0, 0, 0, 0), -3);
        due("told(0)", x.told(0), 10);
        due("light(10, 0)", x.light(10, 0), -1);
        due("light(9, 0)", x.light(9, 0), 21);
    }

    private static void notMaintainedAtFirst() {
        CHECK.sentence("it is maintained or not (not at first)");
        EscapeLights x = one(0, 0);
        due("light(0, 4)", x.light(0, 4), 0);
        x.maintain(0, true);
        x.drop(0);
        x.add(1, 0, 0, 0);
        due("light(0, 4) of a light in the place of a dropped one", x.light(0, 4), 0);
        x.pass(1);
        due("light(0, 8)", x.light(0, 8), 3000);
    }

    private static void ratedTimes() {
        CHECK.sentence("The classes 0, 1, 2, 3 have the rated times 60, 90, 120, 180 minutes");
        int[] rated = {60, 90, 120, 180};
        for (int battery = 0; battery <= 3; battery++) {
            EscapeLights x = one(battery, 2);
            due("test(1, true) of class " + battery, x.test(1, true), 1);
            due("light(0, 11)", x.light(0, 11), rated[battery]);
            due("light(0, 8)", x.light(0, 8), 9000 - rated[battery]);
        }
    }

    private static void wears() {
        CHECK.sentence("The classes 0, 1, 2, 3 have the wears 5, 4, 3, 2");
        for (int battery = 0; battery <= 3; battery++) {
            EscapeLights x = one(battery, 0);
            x.test(1, true);
            due("light(0, 5) of class " + battery, x.light(0, 5), 995 + battery);
            x.test(1, true);
            due("light(0, 5) of class " + battery, x.light(0, 5), 990 + 2 * battery);
        }
    }

    private static void reaches() {
        CHECK.sentence("The kinds of lamps 0, 1, 2 have the reaches 4, 6, 9; A light reaches the places that are not farther");
        int[] reach = {4, 6, 9};
        for (int lamp = 0; lamp <= 2; lamp++) {
            EscapeLights x = one(0, lamp);
            int near = reach[lamp];
            due("its own place", x.reaching(100, false), 1);
            due("lamp " + lamp + ": the last place behind", x.reaching(100 + near, false), 1);
            due("lamp " + lamp + ": a place farther behind", x.reaching(101 + near, false), 0);
            due("lamp " + lamp + ": the last place before", x.reaching(100 - near, false), 1);
            due("lamp " + lamp + ": a place farther before", x.reaching(99 - near, false), 0);
            x.route(100 - near, 100 + near);
            x.route(99 - near, 100);
            x.route(100, 101 + near);
            due("routeAt(0, 2)", x.routeAt(0, 2), 0);
            due("routeAt(1, 2)", x.routeAt(1, 2), 1);
            due("routeAt(2, 2)", x.routeAt(2, 2), 1);
            due("lasts(0, 1)", x.lasts(0, 1), 75);
            due("lasts(1, 1)", x.lasts(1, 1), 0);
            due("lasts(2, 1)", x.lasts(2, 1), 0);
        }
    }

    private static void reachesAtTheEndsOfTheBuilding() {
        CHECK.sentence("A light reaches the places that are not farther from its own place: at places 0 and 200");
        int[] reach = {4, 6, 9};
        for (int lamp = 0; lamp <= 2; lamp++) {
            EscapeLights x = new EscapeLights();
            x.add(0, 0, 0, lamp);
            x.add(200, 0, 0, lamp);
            due("reaching(0, true)", x.reaching(0, true), 1);
            due("reaching(200, true)", x.reaching(200, true), 1);
            due("the last one from 0", x.reaching(reach[lamp], true), 1);
            due("one more", x.reaching(reach[lamp] + 1, true), 0);
            due("the first one to 200", x.reaching(200 - reach[lamp], true), 1);
            due("one less", x.reaching(199 - reach[lamp], true), 0);
            x.route(0, reach[lamp]);
            x.route(200 - reach[lamp], 200);
            due("told(3)", x.told(3), 2);
            due("routeAt(0, 4)", x.routeAt(0, 4), 75);
            due("routeAt(1, 4)", x.routeAt(1, 4), 75);
        }
    }

    private static void lives() {
        CHECK.sentence("The kinds of lamps 0, 1, 2 have the lives 3000, 6000, 9000 minutes");
        for (int lamp = 0; lamp <= 2; lamp++) {
            int hours = 50 * (lamp + 1);
            EscapeLights x = one(0, lamp);
            due("light(0, 8)", x.light(0, 8), 60 * hours);
            x.maintain(0, true);
            x.pass(hours - 1);
            due("told(9) an hour before", x.told(9), 0);
            due("light(0, 8) an hour before", x.light(0, 8), 60);
            x.pass(1);
            due("told(9)", x.told(9), 1);
            due("light(0, 8)", x.light(0, 8), 0);
        }
    }

    private static void healthWhenAdded() {
        CHECK.sentence("A battery has a health, 0 to 1000 (1000 when the light is added)");
        EscapeLights x = one(0, 0);
        due("light(0, 5)", x.light(0, 5), 1000);
        Edge.test(x, 1, 3);
        x.drop(0);
        x.add(1, 0, 0, 0);
        due("light(0, 5) of a light in the place of a dropped one", x.light(0, 5), 1000);
        x.renew(0);
        due("light(0, 5) after renew()", x.light(0, 5), 1000);
    }

    /** A health that is a multiple of the wear reaches 0 just so; the next test leaves it there. */
    private static void healthIsAtLeastZero() {
        CHECK.sentence("A battery has a health, 0 to 1000: the lower end");
        int[] wear = {5, 4, 0, 2};
        for (int battery : new int[] {0, 1, 3}) {
            EscapeLights x = one(battery, 2);
            Edge.test(x, 1, 1000 / wear[battery] - 1);
            due("light(0, 5) before the end", x.light(0, 5), wear[battery]);
            x.test(1, true);
            due("light(0, 5) at the end", x.light(0, 5), 0);
            x.test(1, true);
            due("light(0, 5) behind it", x.light(0, 5), 0);
            due("light(0, 6)", x.light(0, 6), 0);
            due("light(0, 7)", x.light(0, 7), 0);
        }
    }

    /** A health that is smaller than the wear becomes 0. */
    private static void healthOfOneAndLess() {
        CHECK.sentence("the health decreases by the wear of the class, but not below 0");
        EscapeLights x = one(2, 2);
        Edge.test(x, 1, 333);
        due("light(0, 5) before the end", x.light(0, 5), 1);
        x.test(1, true);
        due("light(0, 5): 1 - 3", x.light(0, 5), 0);
        int[] left = {4, 3, 0, 1};
        for (int battery : new int[] {0, 1, 3}) {
            EscapeLights y = one(battery, 2);
            y.pass(1000);
            Edge.test(y, 1, 999 / (5 - battery));
            due("light(0, 5) before the end", y.light(0, 5), left[battery]);
            y.test(1, true);
            due("light(0, 5): less than the wear", y.light(0, 5), 0);
        }
    }

    private static void capacityOfLowHealth() {
        CHECK.sentence("Its capacity, in minutes, is 5 * (rated time) * health / 4000");
        EscapeLights x = one(0, 2);
        due("health 1000", x.light(0, 6), 75);
        Edge.test(x, 1, 186);
        due("health 70: 5.25", x.light(0, 6), 5);
        Edge.test(x, 1, 11);
        due("health 15: 1.125", x.light(0, 6), 1);
        due("light(0, 5)", x.light(0, 5), 15);
        x.test(1, true);
        due("health 10: 0.75", x.light(0, 6), 0);
        x.pass(2000);
        due("light(0, 7)", x.light(0, 7), 0);
        EscapeLights y = one(3, 2);
        due("health 1000", y.light(0, 6), 225);
        y.test(1, true);
        due("health 998: 224.55", y.light(0, 6), 224);
        Edge.test(y, 1, 497);
        due("health 4: 0.9", y.light(0, 6), 0);
        due("light(0, 5)", y.light(0, 5), 4);
        EscapeLights z = one(3, 2);
        Edge.test(z, 1, 497);
        due("health 6: 1.35", z.light(0, 6), 1);
        due("light(0, 5)", z.light(0, 5), 6);
    }

    private static void capacityJustBelowAMinuteMore() {
        CHECK.sentence("Its capacity, in minutes, is 5 * (rated time) * health / 4000: truncated where least is missing");
        EscapeLights x = one(3, 0);
        x.pass(1000);
        Edge.test(x, 1, 4);
        due("light(0, 5)", x.light(0, 5), 991);
        due("health 991: 222.975", x.light(0, 6), 222);
        EscapeLights y = one(1, 0);
        y.pass(1000);
        Edge.test(y, 1, 12);
        due("light(0, 5)", y.light(0, 5), 951);
        due("health 951: 106.9875", y.light(0, 6), 106);
        // health 800 gives whole minutes
        int[] tests = {40, 50, 0, 100};
        int[] capacity = {60, 90, 0, 180};
        for (int battery : new int[] {0, 1, 3}) {
            EscapeLights z = one(battery, 0);
            Edge.test(z, 1, tests[battery]);
            due("light(0, 5)", z.light(0, 5), 800);
            due("health 800 of class " + battery, z.light(0, 6), capacity[battery]);
            Edge.test(z, 1, 1);
            due("a test more", z.light(0, 6), capacity[battery] - 1);
        }
    }

    private static void fullWhenAdded() {
        CHECK.sentence("when the light is added, it is 24 times the capacity");
        int[] capacity = {75, 112, 150, 225};
        for (int battery = 0; battery <= 3; battery++) {
            EscapeLights x = one(battery, 0);
            due("light(0, 6)", x.light(0, 6), capacity[battery]);
            due("light(0, 7)", x.light(0, 7), 24 * capacity[battery]);
            x.pass(1);
            due("light(0, 7) an hour later", x.light(0, 7), 24 * capacity[battery]);
        }
    }

    private static void chargeIsAtLeastZero() {
        CHECK.sentence("Its charge is a number from 0 to 24 times the capacity: the lower end");
        EscapeLights x = one(0, 0);
        x.renew(0);
        due("light(0, 7)", x.light(0, 7), 0);
        x.test(1, true);
        due("light(0, 7) of an empty one that was tested", x.light(0, 7), 0);
        x.pass(1);
        due("light(0, 7)", x.light(0, 7), 74);
        x.test(1, true);
        due("light(0, 7): 74 - 3 * 24", x.light(0, 7), 2);
        x.test(1, true);
        due("light(0, 7): less than a minute is left", x.light(0, 7), 2);
        due("light(0, 9)", x.light(0, 9), 0);
    }

    private static void chargeIsAtMostFull() {
        CHECK.sentence("Its charge is a number from 0 to 24 times the capacity: the upper end");
        EscapeLights x = one(0, 0);
        x.renew(0);
        x.pass(23);
        due("light(0, 7) after 23 hours", x.light(0, 7), 1725);
        x.pass(1);
        due("light(0, 7) after 24", x.light(0, 7), 1800);
        x.pass(1);
        due("light(0, 7) after 25", x.light(0, 7), 1800);
        x.test(1, true);
        x.pass(19);
        due("light(0, 7): 360 + 19 * 74", x.light(0, 7), 1766);
        x.pass(1);
        due("light(0, 7): not 1840", x.light(0, 7), 1776);
    }

    private static void restWhenAdded() {
        CHECK.sentence("A lamp has been lit for some minutes (0 when the light is added or the lamp is swapped)");
        for (int lamp = 0; lamp <= 2; lamp++) {
            EscapeLights x = one(0, 1);
            x.maintain(0, true);
            x.pass(3);
            x.setStock(lamp, 1);
            x.swap(0, lamp);
            due("light(0, 8) after swap(0, " + lamp + ")", x.light(0, 8), 3000 * (lamp + 1));
            x.drop(0);
            x.add(0, 0, 0, lamp);
            due("light(0, 8) of a light in the place of a dropped one", x.light(0, 8), 3000 * (lamp + 1));
        }
    }

    private static void restIsAtLeastZero() {
        CHECK.sentence("its rest is its life minus these minutes, at least 0");
        EscapeLights x = one(0, 0);
        x.maintain(0, true);
        x.pass(2000);
        due("light(0, 8) after 120000 minutes", x.light(0, 8), 0);
        EscapeLights y = restOfOne();
        due("light(0, 8)", y.light(0, 8), 1);
        y.maintain(0, true);
        y.pass(1);
        due("light(0, 8): not 1 - 60", y.light(0, 8), 0);
        y.pass(1);
        due("light(0, 8) of a lamp that is burnt out", y.light(0, 8), 0);
        y.test(1, true);
        due("light(0, 8) after a test", y.light(0, 8), 0);
    }

    private static void burntOutAtZero() {
        CHECK.sentence("It is burnt out if its rest is 0");
        EscapeLights x = restOfOne();
        due("told(9) with a rest of 1", x.told(9), 0);
        due("swapAll(1)", x.swapAll(1), 0);
        x.test(1, true);
        due("light(0, 11)", x.light(0, 11), 1);
        due("light(0, 8)", x.light(0, 8), 0);
        due("told(9) with a rest of 0", x.told(9), 1);
        x.setStock(0, 1);
        due("swapAll(1)", x.swapAll(1), 1);
        due("told(9)", x.told(9), 0);
    }

    private static void enduranceIsTheSmallerOne() {
        CHECK.sentence("The endurance of a light is the smaller one of charge / 24 and the rest of its lamp");
        EscapeLights x = one(0, 0);
        due("75 and 3000", x.light(0, 9), 75);
        x.maintain(0, true);
        x.pass(48);
        due("75 and 120", x.light(0, 9), 75);
        x.pass(1);
        due("75 and 60", x.light(0, 9), 60);
        x.renew(0);
        due("0 and 60", x.light(0, 9), 0);
        x.maintain(0, false);
        x.pass(19);
        due("59 and 60", x.light(0, 9), 59);
        x.pass(1);
        due("62 and 60", x.light(0, 9), 60);
        x.maintain(0, true);
        x.pass(1);
        due("65 and 0", x.light(0, 9), 0);
        EscapeLights y = restOfOne();
        due("full and 1", y.light(0, 9), 1);
        y.renew(0);
        due("0 and 1", y.light(0, 9), 0);
    }

    private static void readyAtTheNeed() {
        CHECK.sentence("A light is ready if its endurance is at least the need");
        int[] endurance = {75, 112, 150};
        for (int battery = 0; battery <= 2; battery++) {
            EscapeLights x = one(battery, 0);
            x.route(100, 100);
            x.setNeed(endurance[battery]);
            due("light(0, 10) at the need", x.light(0, 10), 1);
            due("told(1)", x.told(1), 1);
            due("told(3)", x.told(3), 1);
            due("reaching(100, true)", x.reaching(100, true), 1);
            due("pass(1)", x.pass(1), 1);
            x.setNeed(endurance[battery] + 1);
            due("light(0, 10) below it", x.light(0, 10), 0);
            due("told(1)", x.told(1), 0);
            due("told(3)", x.told(3), 0);
            due("reaching(100, true)", x.reaching(100, true), 0);
            due("pass(1)", x.pass(1), 0);
        }
    }

    private static void readyAtTheLeastNeed() {
        CHECK.sentence("the need (1 to 180 minutes): a need of 1");
        EscapeLights x = restOfOne();
        x.setNeed(1);
        due("light(0, 10) with an endurance of 1", x.light(0, 10), 1);
        x.setNeed(2);
        due("light(0, 10) with a need of 2", x.light(0, 10), 0);
        x.setNeed(1);
        x.test(1, true);
        due("light(0, 9)", x.light(0, 9), 0);
        due("light(0, 10) with an endurance of 0", x.light(0, 10), 0);
    }

    private static void readyAtTheGreatestNeed() {
        CHECK.sentence("the need (1 to 180 minutes): a need of 180");
        EscapeLights x = one(3, 0);
        x.setNeed(180);
        due("light(0, 10) with an endurance of 225", x.light(0, 10), 1);
        x.maintain(0, true);
        x.pass(47);
        due("light(0, 9)", x.light(0, 9), 180);
        due("light(0, 10) with an endurance of 180", x.light(0, 10), 1);
        // a lamp with a rest of 179: 0 and 121 minutes of tests, 45 hours
        EscapeLights y = one(3, 0);
        y.setNeed(180);
        y.renew(0);
        y.test(1, true);
        y.pass(13);
        y.test(1, true);
        y.maintain(0, true);
        y.pass(45);
        due("light(0, 9)", y.light(0, 9), 179);
        due("light(0, 10) with an endurance of 179", y.light(0, 10), 0);
        y.setNeed(179);
        due("light(0, 10) with a need of 179", y.light(0, 10), 1);
    }

    private static void needAtFirst() {
        CHECK.sentence("the need (60 at first)");
        EscapeLights x = one(0, 0);
        due("told(4)", x.told(4), 60);
        x.maintain(0, true);
        x.pass(49);
        due("light(0, 9)", x.light(0, 9), 60);
        due("light(0, 10) with an endurance of 60", x.light(0, 10), 1);
        EscapeLights y = one(0, 0);
        y.renew(0);
        y.pass(19);
        due("light(0, 9)", y.light(0, 9), 59);
        due("light(0, 10) with an endurance of 59", y.light(0, 10), 0);
        due("setNeed(60)", y.setNeed(60), 60);
    }

    private static void stockAtFirst() {
        CHECK.sentence("There is a stock of lamps of each kind, 0 to 99 (0 at first)");
        EscapeLights x = one(0, 0);
        for (int lamp = 0; lamp <= 2; lamp++) {
            due("told(" + (6 + lamp) + ")", x.told(6 + lamp), 0);
            due("swap(0, " + lamp + ")", x.swap(0, lamp), -2);
        }
        due("swapAll(9000)", x.swapAll(9000), 0);
        for (int lamp = 0; lamp <= 2; lamp++) {
            due("setStock(" + lamp + ", 0)", x.setStock(lamp, 0), 0);
        }
    }

    private static void stockFromZeroTo99() {
        CHECK.sentence("There is a stock of lamps of each kind, 0 to 99: down to 0 and no farther");
        for (int lamp = 0; lamp <= 2; lamp++) {
            EscapeLights x = one(0, 0);
            x.setStock(lamp, 99);
            for (int left = 98; left >= 0; left--) {
                due("swap(0, " + lamp + ")", x.swap(0, lamp), left);
            }
            due("swap(0, " + lamp + ") without stock", x.swap(0, lamp), -2);
            due("told(" + (6 + lamp) + ")", x.told(6 + lamp), 0);
            due("the stocks of the others", x.told(6) + x.told(7) + x.told(8), 0);
        }
        EscapeLights y = new EscapeLights();
        for (int i = 0; i < 4; i++) {
            y.add(i, 0, 0, 0);
        }
        y.setStock(0, 3);
        due("swapAll(9000) with three lamps for four", y.swapAll(9000), 3);
        due("told(6)", y.told(6), 0);
        due("swapAll(9000)", y.swapAll(9000), 0);
        due("told(6)", y.told(6), 0);
    }
}
