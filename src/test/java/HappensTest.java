/** Promises 13 to 18: what happens. */
public final class HappensTest {
    private static final Check CHECK = new Check();

    public static void main(String[] args) {
        swap();
        swapAll();
        swapAllTakesTheGreatestKind();
        renew();
        pass();
        ageing();
        lastHours();
        lampsBurnOut();
        test();
        testOfAnEmptyBattery();
        testOfALampThatEnds();
        healthEnds();
        carryOut();
        carryOutRefused();
        CHECK.end();
    }

    private static void due(String call, long got, long want) {
        CHECK.due(call, got, want);
    }

    /** Promise 13. */
    private static void swap() {
        EscapeLights x = new EscapeLights();
        due("swap(0, 0) of none", x.swap(0, 0), -1);
        x.add(10, 0, 0, 0);
        x.test(1, true);
        due("swap(0, -1)", x.swap(0, -1), -1);
        due("swap(0, 3)", x.swap(0, 3), -1);
        due("swap(-1, 0)", x.swap(-1, 0), -1);
        due("swap(0, 2) without stock", x.swap(0, 2), -2);
        due("swap(1, 2) without stock", x.swap(1, 2), -1);
        due("no change", x.told(13), 2);
        x.setStock(2, 2);
        x.setStock(0, 1);
        due("swap(0, 2)", x.swap(0, 2), 1);
        due("its kind", x.light(0, 3), 2);
        due("its rest", x.light(0, 8), 9000);
        due("its result", x.light(0, 11), 60);
        due("its charge", x.light(0, 7), 360);
        due("the stock", x.told(8), 1);
        due("swap(0, 2) of the same kind", x.swap(0, 2), 0);
        due("swap(0, 2) when none is left", x.swap(0, 2), -2);
        due("swap(0, 0)", x.swap(0, 0), 0);
        due("its rest", x.light(0, 8), 3000);
        due("undo()", x.undo(), 6);
        due("the stock", x.told(6), 1);
    }

    /** Promise 14. */
    private static void swapAll() {
        EscapeLights x = new EscapeLights();
        due("swapAll(0)", x.swapAll(0), -1);
        due("swapAll(9001)", x.swapAll(9001), -1);
        due("no change", x.told(13), 0);
        due("swapAll(9000) without lights", x.swapAll(9000), 0);
        due("a change", x.told(13), 1);
        x.add(0, 0, 0, 0);
        x.add(0, 0, 0, 1);
        x.add(0, 0, 0, 2);
        due("swapAll(9000) without stock", x.swapAll(9000), 0);
        due("swapAll(1)", x.swapAll(1), 0);
        x.setStock(0, 9);
        due("swapAll(3000)", x.swapAll(3000), 0);
        due("swapAll(3001)", x.swapAll(3001), 1);
        due("its kind", x.light(0, 3), 0);
        due("swapAll(9000): no smaller reach", x.swapAll(9000), 1);
        due("told(6)", x.told(6), 7);
        due("light(1, 3)", x.light(1, 3), 1);
        due("told(13)", x.told(13), 8);
        due("undo()", x.undo(), 7);
        due("told(6)", x.told(6), 8);
    }

    private static void swapAllTakesTheGreatestKind() {
        EscapeLights x = new EscapeLights();
        for (int k = 0; k < 5; k++) {
            x.add(0, 0, 0, 0);
        }
        x.setStock(0, 1);
        x.setStock(1, 2);
        x.setStock(2, 1);
        due("swapAll(9000)", x.swapAll(9000), 4);
        int[] kinds = {0, 2, 1, 1, 0};
        for (int i = 0; i < 5; i++) {
            due("light(" + i + ", 3)", x.light(i, 3), kinds[i]);
            due("light(" + i + ", 8)", x.light(i, 8), 3000 * (kinds[i] + 1));
        }
        due("told(6)", x.told(6), 0);
        due("told(7)", x.told(7), 0);
        due("told(8)", x.told(8), 0);
    }

    /** Promise 15. */
    private static void renew() {
        EscapeLights x = new EscapeLights();
        due("renew(0) of none", x.renew(0), -1);
        x.add(0, 0, 1, 1);
        x.test(1, true);
        due("renew(1)", x.renew(1), -1);
        due("renew(-1)", x.renew(-1), -1);
        due("renew(0)", x.renew(0), 996);
        due("its health", x.light(0, 5), 1000);
        due("its capacity", x.light(0, 6), 112);
        due("its charge", x.light(0, 7), 0);
        due("its lamp", x.light(0, 8), 5910);
        due("its result", x.light(0, 11), 90);
        due("renew(0) again", x.renew(0), 1000);
        due("told(13)", x.told(13), 4);
    }

    /** Promise 16. */
    private static void pass() {
        EscapeLights x = new EscapeLights();
        due("pass(0)", x.pass(0), -1);
        due("pass(-1)", x.pass(-1), -1);
        due("pass(2001)", x.pass(2001), -1);
        due("no change", x.told(13), 0);
        x.add(0, 0, 0, 0);
        x.add(0, 0, 0, 1);
        x.renew(0);
        due("pass(1)", x.pass(1), 1);
        due("its charge", x.light(0, 7), 75);
        due("its endurance", x.light(0, 9), 3);
        due("pass(18)", x.pass(18), 1);
        due("its endurance", x.light(0, 9), 59);
        due("pass(1)", x.pass(1), 2);
        due("its endurance", x.light(0, 9), 62);
        due("pass(5)", x.pass(5), 2);
        due("its charge", x.light(0, 7), 1800);
        due("told(5)", x.told(5), 25);
    }

    /** A battery recharges in the hour in which it ages before it ages. */
    private static void ageing() {
        EscapeLights x = new EscapeLights();
        x.add(0, 0, 0, 0);
        due("pass(990)", x.pass(990), 1);
        x.renew(0);
        due("pass(9)", x.pass(9), 0);
        due("its health", x.light(0, 5), 1000);
        due("pass(1)", x.pass(1), 0);
        due("its charge", x.light(0, 7), 750);
        due("its health", x.light(0, 5), 999);
        due("its capacity", x.light(0, 6), 74);
        due("pass(1)", x.pass(1), 0);
        due("its charge", x.light(0, 7), 824);
        due("pass(998)", x.pass(998), 1);
        due("its charge", x.light(0, 7), 1776);
        due("pass(2000)", x.pass(2000), 1);
        due("its health", x.light(0, 5), 997);
        due("told(5)", x.told(5), 3999);
        x.add(0, 0, 0, 0);
        due("a new battery", x.light(1, 7), 1800);
        due("pass(1)", x.pass(1), 2);
        due("the charge that is too great", x.light(1, 7), 1776);
        due("its health", x.light(0, 5), 996);
        EscapeLights y = new EscapeLights();
        y.add(0, 0, 0, 0);
        due("pass(1001)", y.pass(1001), 1);
        due("told(5)", y.told(5), 1001);
        due("pass(2000)", y.pass(2000), 1);
        due("told(5)", y.told(5), 3001);
        due("its health", y.light(0, 5), 997);
    }

    private static void lastHours() {
        EscapeLights x = new EscapeLights();
        x.add(0, 0, 0, 0);
        for (int k = 1; k < 50; k++) {
            due("pass(2000) the " + k + "th", x.pass(2000), 1);
        }
        due("pass(1999)", x.pass(1999), 1);
        due("pass(2)", x.pass(2), EscapeLights.FULL);
        due("pass(2000)", x.pass(2000), EscapeLights.FULL);
        due("pass(2001)", x.pass(2001), EscapeLights.BAD);
        due("carryOut()", x.carryOut(), EscapeLights.FULL);
        due("told(5)", x.told(5), 99999);
        due("pass(1)", x.pass(1), 1);
        due("told(5)", x.told(5), 100000);
        due("its health", x.light(0, 5), 900);
        due("pass(1)", x.pass(1), EscapeLights.FULL);
        due("undo()", x.undo(), 7);
        due("undo()", x.undo(), 6);
        due("pass(1976)", x.pass(1976), 1);
        due("told(5)", x.told(5), 99976);
        due("carryOut() of 24 hours", x.carryOut(), 0);
        due("told(5)", x.told(5), 100000);
        due("carryOut()", x.carryOut(), EscapeLights.FULL);
    }

    private static void lampsBurnOut() {
        EscapeLights x = new EscapeLights();
        x.add(0, 0, 3, 0);
        x.add(0, 0, 3, 0);
        x.maintain(0, true);
        x.pass(47);
        due("its rest", x.light(0, 8), 180);
        due("its endurance", x.light(0, 9), 180);
        due("the other one's rest", x.light(1, 8), 3000);
        due("pass(2)", x.pass(2), 2);
        due("its endurance", x.light(0, 9), 60);
        due("told(9)", x.told(9), 0);
        due("pass(1)", x.pass(1), 1);
        due("its rest", x.light(0, 8), 0);
        due("told(9)", x.told(9), 1);
        due("pass(1)", x.pass(1), 1);
        due("its rest", x.light(0, 8), 0);
        due("it reaches all the same", x.reaching(4, false), 2);
    }

    /** Promise 17. */
    private static void test() {
        EscapeLights x = new EscapeLights();
        x.add(10, 0, 0, 0);
        x.add(10, 0, 3, 1);
        x.route(8, 12);
        due("test(0, true)", x.test(0, true), -1);
        due("test(-1, true)", x.test(-1, true), -1);
        due("test(4, true)", x.test(4, true), -1);
        due("test(5, false)", x.test(5, false), -1);
        due("test(3, false)", x.test(3, false), -2);
        due("no change", x.told(13), 3);
        due("test(2, false)", x.test(2, false), 1);
        due("its charge", x.light(1, 7), 1080);
        due("its health", x.light(1, 5), 998);
        due("its capacity", x.light(1, 6), 224);
        due("its rest", x.light(1, 8), 5820);
        due("its result", x.light(1, 11), 180);
        due("the other one's result", x.light(0, 11), -9);
        due("test(1, false) of the last one", x.test(1, false), -2);
        due("test(3, true)", x.test(3, true), 1);
        due("its result", x.light(0, 11), 60);
        due("the other one's result", x.light(1, 11), 45);
        due("told(10)", x.told(10), 2);
        due("told(11)", x.told(11), 1);
        due("told(13)", x.told(13), 5);
        due("undo()", x.undo(), 4);
        due("told(10)", x.told(10), 1);
        due("told(11)", x.told(11), 0);
        due("its result", x.light(0, 11), -9);
    }

    private static void testOfAnEmptyBattery() {
        EscapeLights x = new EscapeLights();
        x.add(0, 0, 0, 0);
        due("test(1, false)", x.test(1, false), 1);
        due("test(1, false)", x.test(1, false), 0);
        due("its result", x.light(0, 11), 15);
        due("its charge", x.light(0, 7), 0);
        due("its health", x.light(0, 5), 990);
        due("test(1, false)", x.test(1, false), 0);
        due("its result", x.light(0, 11), 0);
        due("its health", x.light(0, 5), 985);
        due("its rest", x.light(0, 8), 2925);
        due("told(10)", x.told(10), 1);
        due("told(11)", x.told(11), 2);
    }

    private static void testOfALampThatEnds() {
        EscapeLights x = new EscapeLights();
        x.add(0, 0, 1, 0);
        x.maintain(0, true);
        due("test(1, true)", x.test(1, true), 1);
        x.pass(48);
        due("its rest", x.light(0, 8), 30);
        due("its endurance", x.light(0, 9), 30);
        due("test(1, true)", x.test(1, true), 0);
        due("its result", x.light(0, 11), 30);
        due("its rest", x.light(0, 8), 0);
        due("its charge", x.light(0, 7), 2688 - 720);
        due("told(9)", x.told(9), 1);
        x.undo();
        x.pass(1);
        due("an hour more than the rest", x.light(0, 8), 0);
        due("test(1, true)", x.test(1, true), 0);
        due("its result", x.light(0, 11), 0);
    }

    /** The wears of the classes, down to a health of 0; each object is looked at for a hundred tests. */
    private static void healthEnds() {
        for (int battery = 0; battery < 4; battery++) {
            for (int before = 0; before < 334; before += 100) {
                EscapeLights x = new EscapeLights();
                x.add(0, 0, battery, 2);
                Edge.test(x, 1, before);
                for (int k = before + 1; k <= Math.min(334, before + 100); k++) {
                    x.test(1, true);
                    int health = Math.max(0, 1000 - k * (5 - battery));
                    due("health after " + k, x.light(0, 5), health);
                    // the capacity falls by a minute as soon as a whole one is gone
                    int rated = new int[] {60, 90, 120, 180}[battery];
                    due("capacity after " + k, x.light(0, 6), rated * health / 800);
                }
            }
        }
        EscapeLights y = new EscapeLights();
        y.add(0, 0, 0, 2);
        y.add(0, 0, 3, 2);
        Edge.test(y, 3, 334);
        due("capacity", y.light(0, 6), 0);
        due("capacity", y.light(1, 6), 5 * 180 * 332 / 4000);
        due("pass(1000)", y.pass(1000), 1);
        due("health", y.light(0, 5), 0);
        due("health", y.light(1, 5), 331);
        due("charge", y.light(0, 7), 0);
        due("charge", y.light(1, 7), 24 * (5 * 180 * 331 / 4000));
    }

    /** Promise 18. */
    private static void carryOut() {
        EscapeLights x = new EscapeLights();
        x.add(100, 0, 3, 0);
        x.add(10, 0, 0, 0);
        x.add(10, 0, 0, 0);
        x.renew(0);
        x.route(8, 12);
        due("days()", x.days(), 2);
        due("day(0)", x.day(0), 3);
        due("day(1)", x.day(1), 4);
        due("carryOut()", x.carryOut(), 1);
        due("told(5)", x.told(5), 48);
        due("told(10)", x.told(10), 2);
        due("told(11)", x.told(11), 1);
        due("light(0, 11)", x.light(0, 11), 0);
        due("light(0, 5)", x.light(0, 5), 998);
        due("light(0, 7)", x.light(0, 7), 24 * 224);
        due("light(1, 7)", x.light(1, 7), 1776);
        due("light(2, 7)", x.light(2, 7), 1776);
        due("light(2, 11)", x.light(2, 11), 60);
        due("told(13)", x.told(13), 6);
        due("carryOut() again", x.carryOut(), 0);
        due("told(5)", x.told(5), 96);
        due("undo()", x.undo(), 6);
        due("undo()", x.undo(), 5);
        due("told(5)", x.told(5), 0);
        due("light(0, 11)", x.light(0, 11), -9);
        carryOutForces();
    }

    /** The sets of the plan are tested though the first day leaves fewer lights that are ready. */
    private static void carryOutForces() {
        EscapeLights x = new EscapeLights();
        x.add(10, 0, 3, 0);
        x.add(10, 0, 3, 0);
        x.setNeed(180);
        x.route(8, 12);
        x.pass(2000);
        x.test(3, true);
        x.pass(16);
        due("told(1)", x.told(1), 2);
        due("days()", x.days(), 2);
        due("carryOut()", x.carryOut(), 0);
        due("told(10)", x.told(10), 4);
    }

    private static void carryOutRefused() {
        EscapeLights x = new EscapeLights();
        due("carryOut() without lights", x.carryOut(), EscapeLights.BAD);
        x.add(10, 0, 0, 0);
        x.route(8, 12);
        due("carryOut() without a plan", x.carryOut(), EscapeLights.STATE);
        x.route(0, 1);
        due("carryOut() without a plan", x.carryOut(), EscapeLights.STATE);
        x.dropRoute(0);
        due("carryOut() without a safe route", x.carryOut(), 0);
        due("light(0, 7)", x.light(0, 7), 1776);
    }
}
