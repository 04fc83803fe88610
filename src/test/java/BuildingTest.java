/** Promises 1 to 12: the building. */
public final class BuildingTest {
    private static final Check CHECK = new Check();

    public static void main(String[] args) {
        newObject();
        type();
        clear();
        load();
        faults();
        loadKeepsTheRest();
        add();
        drop();
        maintain();
        route();
        dropRoute();
        setNeed();
        setStock();
        light();
        CHECK.end();
    }

    private static void due(String call, long got, long want) {
        CHECK.due(call, got, want);
    }

    /** Promise 1. */
    private static void newObject() {
        EscapeLights x = new EscapeLights();
        for (int what = 0; what <= 13; what++) {
            due("new: told(" + what + ")", x.told(what), what == 4 ? 60 : 0);
        }
        due("new: light(0, 0)", x.light(0, 0), EscapeLights.BAD);
        due("new: routeAt(0, 0)", x.routeAt(0, 0), EscapeLights.BAD);
        due("new: days()", x.days(), 0);
        due("new: clear()", x.clear(), 0);
        due("new: undo()", x.undo(), EscapeLights.STATE);
    }

    /** Promise 2. */
    private static void type() {
        EscapeLights x = new EscapeLights();
        due("type(32)", x.type(32), -1);
        due("type(127)", x.type(127), -1);
        due("type(-1)", x.type(-1), -1);
        due("type(33 + 256)", x.type(33 + 256), -1);
        due("type(33)", x.type(33), 1);
        due("type(126)", x.type(126), 2);
        for (int n = 3; n <= 80; n++) {
            due("type(112) the " + n + "th", x.type(112), n);
        }
        due("type(112) too many", x.type(112), EscapeLights.FULL);
        due("type(31) too many", x.type(31), EscapeLights.BAD);
        due("told(12) when full", x.told(12), 80);
        due("type is no change", x.told(13), 0);
        due("load() of rubbish", x.load(), -10);
    }

    /** Promise 3. */
    private static void clear() {
        EscapeLights x = new EscapeLights();
        Check.write(x, "p1c0b0l0;");
        due("clear()", x.clear(), 9);
        due("clear() again", x.clear(), 0);
        due("told(12) after clear", x.told(12), 0);
        due("load() after clear", x.load(), 0);
        due("type after clear", x.type(112), 1);
        due("clear is no change", x.told(13), 1);
    }

    /** Promise 4. */
    private static void load() {
        EscapeLights x = new EscapeLights();
        Check.write(x, "p005c1b2l1m;r7-07;p200c3b3l2;r0-200;");
        due("load()", x.load(), 202);
        int[] first = {5, 1, 2, 1, 1, 1000, 150, 3600, 6000, 150, 1, -9};
        int[] second = {200, 3, 3, 2, 0, 1000, 225, 5400, 9000, 225, 1, -9};
        for (int what = 0; what < 12; what++) {
            due("load: light(0, " + what + ")", x.light(0, what), first[what]);
            due("load: light(1, " + what + ")", x.light(1, what), second[what]);
        }
        due("load: routeAt(0, 0)", x.routeAt(0, 0), 7);
        due("load: routeAt(0, 1)", x.routeAt(0, 1), 7);
        due("load: routeAt(1, 0)", x.routeAt(1, 0), 0);
        due("load: routeAt(1, 1)", x.routeAt(1, 1), 200);
        due("load: the text stays", x.told(12), 36);
        due("load is a change", x.told(13), 1);
        Check.write(x, "");
        due("load() of the empty text", x.load(), 0);
        due("load: no lights", x.told(0), 0);
        due("load: no routes", x.told(2), 0);
        due("undo() of it", x.undo(), 1);
        due("undo: lights", x.told(0), 2);
        due("undo: routes", x.told(2), 2);
        Check.write(x, "p1c0b0l0;p2c0b0l0;p3c0b0l0;p4c0b0l0;p5c0b0l0;p6c0b0l0;p7c0b0l0;p8c0b0l0;r1-1;");
        due("load() of 77 bytes", x.load(), 108);
        due("load: light(7, 0)", x.light(7, 0), 8);
        Check.write(x, "r1-1;r1-2;r1-3;r1-4;r1-5;r100-200;p9c3b3l2m;");
        due("load() of 6 routes", x.load(), 601);
        due("load: routeAt(5, 0)", x.routeAt(5, 0), 100);
        due("load: routeAt(5, 1)", x.routeAt(5, 1), 200);
    }

    private static void faults() {
        fault("x", 0);
        fault("P1c0b0l0;", 0);
        fault(";", 0);
        fault("p", 1);
        fault("p;", 1);
        fault("pc", 1);
        fault("p1", 2);
        fault("p1b", 2);
        fault("p12", 3);
        fault("p200", 4);
        fault("p201", 3);
        fault("p201c0b0l0;", 3);
        fault("p999", 3);
        fault("p2000", 4);
        fault("p0001", 4);
        fault("p2010", 4);
        fault("p2012", 4);
        fault("p20123;", 4);
        fault("p9999c0b0l0;", 4);
        fault("p201;", 3);
        fault("p-1", 1);
        fault("p1c", 3);
        fault("p1cb", 3);
        fault("p1c4", 3);
        fault("p1c4b0l0;", 3);
        fault("p1c45b0l0;", 4);
        fault("p1c00b0l0;", 4);
        fault("p1c3", 4);
        fault("p1c3b", 5);
        fault("p1c3b4", 5);
        fault("p1c0b00l0;", 6);
        fault("p1c0b0l00;", 8);
        fault("p1c0b10l0;", 6);
        fault("p1c0b45l0;", 6);
        fault("p1c0b0l10;", 8);
        fault("p1c0b0l35", 8);
        fault("p1c3b3l", 7);
        fault("p1c3b3l3", 7);
        fault("p1c3b3l9;", 7);
        fault("p1c3b3l2", 8);
        fault("p1c3b3l2M;", 8);
        fault("p1c3b3l2m", 9);
        fault("p1c3b3l2mm;", 9);
        fault("p1c3b3l2;;", 9);
        fault("p1c3b3l2;p1c3b3l2", 17);
        fault("r", 1);
        fault("r-", 1);
        fault("r1", 2);
        fault("r0001-2;", 4);
        fault("r1;", 2);
        fault("r201-202;", 3);
        fault("r2012-202;", 4);
        fault("r1-", 3);
        fault("r1-;", 3);
        fault("r1-1", 4);
        fault("r1-1p", 4);
        fault("r1-201", 5);
        fault("r1-0200;", 6);
        fault("r1-2010;", 6);
        fault("r1-0", 3);
        fault("r1-0;", 3);
        fault("r50-4", 4);
        fault("r50-49;", 5);
        fault("r50-5", 4);
        fault("r50-51", 6);
        fault("r50-049x", 6);
        fault("r50-0490", 7);
        fault("r1-1;r1-1;r1-1;r1-1;r1-1;r1-1;r", 30);
        fault("r1-1;r1-1;r1-1;r1-1;r1-1;r1-1;p", 31);
    }

    private static void fault(String text, int where) {
        EscapeLights x = new EscapeLights();
        x.add(7, 1, 1, 1);
        x.route(3, 4);
        Check.write(x, text);
        due("load() of " + text, x.load(), -10 - where);
        due("fault in " + text + ": light(0, 0)", x.light(0, 0), 7);
        due("fault in " + text + ": told(0)", x.told(0), 1);
        due("fault in " + text + ": told(2)", x.told(2), 1);
        due("fault in " + text + ": told(13)", x.told(13), 2);
        due("fault in " + text + ": told(12)", x.told(12), text.length());
    }

    private static void loadKeepsTheRest() {
        EscapeLights x = new EscapeLights();
        x.setNeed(44);
        x.setStock(0, 5);
        x.setStock(2, 6);
        x.add(0, 0, 0, 0);
        x.add(0, 0, 0, 0);
        x.test(1, true);
        x.test(1, true);
        x.pass(7);
        Check.write(x, "p1c0b0l0;");
        due("load()", x.load(), 1);
        due("load: need", x.told(4), 44);
        due("load: hours", x.told(5), 7);
        due("load: stock", x.told(6), 5);
        due("load: stock", x.told(8), 6);
        due("load: passed", x.told(10), 1);
        due("load: failed", x.told(11), 1);
        due("load: no result", x.light(0, 11), -9);
        due("load: health", x.light(0, 5), 1000);
        due("load: charge", x.light(0, 7), 1800);
    }

    /** Promise 5. */
    private static void add() {
        EscapeLights x = new EscapeLights();
        due("add(-1, 0, 0, 0)", x.add(-1, 0, 0, 0), -1);
        due("add(201, 0, 0, 0)", x.add(201, 0, 0, 0), -1);
        due("add(0, -1, 0, 0)", x.add(0, -1, 0, 0), -1);
        due("add(0, 4, 0, 0)", x.add(0, 4, 0, 0), -1);
        due("add(0, 0, -1, 0)", x.add(0, 0, -1, 0), -1);
        due("add(0, 0, 4, 0)", x.add(0, 0, 4, 0), -1);
        due("add(0, 0, 0, -1)", x.add(0, 0, 0, -1), -1);
        due("add(0, 0, 0, 3)", x.add(0, 0, 0, 3), -1);
        due("no change", x.told(13), 0);
        for (int i = 0; i < 10; i++) {
            due("add the " + i + "th", x.add(200 - i, i % 4, 3 - i % 4, i % 3), i);
        }
        int[] capacities = {75, 112, 150, 225};
        for (int i = 0; i < 10; i++) {
            int capacity = capacities[3 - i % 4];
            int[] want = {200 - i, i % 4, 3 - i % 4, i % 3, 0, 1000, capacity, 24 * capacity,
                3000 * (i % 3 + 1), capacity, 1, -9, 0};
            for (int what = 0; what <= 12; what++) {
                due("add: light(" + i + ", " + what + ")", x.light(i, what), want[what]);
            }
        }
        due("add an 11th", x.add(0, 0, 0, 0), EscapeLights.FULL);
        due("add a wrong 11th", x.add(0, 0, 0, 3), EscapeLights.BAD);
        due("told(0)", x.told(0), 10);
    }

    /** Promise 6. */
    private static void drop() {
        EscapeLights x = new EscapeLights();
        due("drop(0) of none", x.drop(0), -1);
        for (int place = 10; place <= 13; place++) {
            x.add(place, 0, 0, 0);
        }
        x.test(8, true);
        due("drop(4)", x.drop(4), -1);
        due("drop(-1)", x.drop(-1), -1);
        due("drop(1)", x.drop(1), 3);
        due("light(0, 0)", x.light(0, 0), 10);
        due("light(1, 0)", x.light(1, 0), 12);
        due("light(2, 0)", x.light(2, 0), 13);
        due("light(2, 11)", x.light(2, 11), 60);
        due("light(3, 0)", x.light(3, 0), -1);
        due("add behind it", x.add(20, 0, 0, 0), 3);
        due("light(3, 11)", x.light(3, 11), -9);
        due("drop(3)", x.drop(3), 3);
        due("drop(0)", x.drop(0), 2);
        due("light(0, 0)", x.light(0, 0), 12);
        due("undo()", x.undo(), 7);
        due("light(0, 0)", x.light(0, 0), 10);
    }

    /** Promise 7. */
    private static void maintain() {
        EscapeLights x = new EscapeLights();
        due("maintain(0, true) of none", x.maintain(0, true), -1);
        x.add(0, 0, 0, 0);
        x.add(0, 0, 0, 0);
        due("maintain(2, true)", x.maintain(2, true), -1);
        due("maintain(-1, true)", x.maintain(-1, true), -1);
        due("maintain(1, true)", x.maintain(1, true), 0);
        due("light(1, 4)", x.light(1, 4), 1);
        due("light(0, 4)", x.light(0, 4), 0);
        due("maintain(1, true) again", x.maintain(1, true), 1);
        due("maintain(1, false)", x.maintain(1, false), 1);
        due("light(1, 4)", x.light(1, 4), 0);
        due("maintain(1, false) again", x.maintain(1, false), 0);
        due("each is a change", x.told(13), 6);
    }

    /** Promise 8. */
    private static void route() {
        EscapeLights x = new EscapeLights();
        due("route(-1, 0)", x.route(-1, 0), -1);
        due("route(0, 201)", x.route(0, 201), -1);
        due("route(201, 201)", x.route(201, 201), -1);
        due("route(9, 8)", x.route(9, 8), -1);
        due("route(0, 0)", x.route(0, 0), 0);
        due("route(200, 200)", x.route(200, 200), 1);
        for (int r = 2; r < 6; r++) {
            due("route the " + r + "th", x.route(r, 100), r);
        }
        due("a 7th route", x.route(0, 0), EscapeLights.FULL);
        due("a wrong 7th route", x.route(1, 0), EscapeLights.BAD);
        due("told(2)", x.told(2), 6);
        due("told(13)", x.told(13), 6);
        due("routeAt(5, 0)", x.routeAt(5, 0), 5);
        due("routeAt(5, 1)", x.routeAt(5, 1), 100);
    }

    /** Promise 9. */
    private static void dropRoute() {
        EscapeLights x = new EscapeLights();
        due("dropRoute(0) of none", x.dropRoute(0), -1);
        x.route(1, 11);
        x.route(2, 12);
        x.route(3, 13);
        due("dropRoute(3)", x.dropRoute(3), -1);
        due("dropRoute(-1)", x.dropRoute(-1), -1);
        due("dropRoute(0)", x.dropRoute(0), 2);
        due("routeAt(0, 0)", x.routeAt(0, 0), 2);
        due("routeAt(1, 0)", x.routeAt(1, 0), 3);
        due("routeAt(1, 1)", x.routeAt(1, 1), 13);
        due("routeAt(2, 0)", x.routeAt(2, 0), -1);
        due("dropRoute(1)", x.dropRoute(1), 1);
        due("dropRoute(0)", x.dropRoute(0), 0);
        due("undo()", x.undo(), 5);
        due("routeAt(0, 1)", x.routeAt(0, 1), 12);
    }

    /** Promise 10. */
    private static void setNeed() {
        EscapeLights x = new EscapeLights();
        due("setNeed(0)", x.setNeed(0), -1);
        due("setNeed(181)", x.setNeed(181), -1);
        due("no change", x.told(13), 0);
        due("setNeed(1)", x.setNeed(1), 60);
        due("setNeed(180)", x.setNeed(180), 1);
        x.add(0, 0, 2, 0);
        due("150 minutes are not 180", x.light(0, 10), 0);
        due("setNeed(151)", x.setNeed(151), 180);
        due("150 minutes are not 151", x.light(0, 10), 0);
        due("setNeed(150)", x.setNeed(150), 151);
        due("150 minutes are 150", x.light(0, 10), 1);
    }

    /** Promise 11. */
    private static void setStock() {
        EscapeLights x = new EscapeLights();
        due("setStock(-1, 0)", x.setStock(-1, 0), -1);
        due("setStock(3, 0)", x.setStock(3, 0), -1);
        due("setStock(0, -1)", x.setStock(0, -1), -1);
        due("setStock(0, 100)", x.setStock(0, 100), -1);
        due("setStock(0, 99)", x.setStock(0, 99), 0);
        due("setStock(1, 5)", x.setStock(1, 5), 0);
        due("setStock(2, 7)", x.setStock(2, 7), 0);
        due("setStock(0, 0)", x.setStock(0, 0), 99);
        due("told(6)", x.told(6), 0);
        due("told(7)", x.told(7), 5);
        due("told(8)", x.told(8), 7);
        due("told(13)", x.told(13), 4);
    }

    /** Promise 12. */
    private static void light() {
        EscapeLights x = new EscapeLights();
        x.add(10, 2, 0, 0);
        x.add(10, 3, 0, 1);
        x.route(8, 12);
        due("light(2, 0)", x.light(2, 0), -1);
        due("light(-1, 0)", x.light(-1, 0), -1);
        due("light(0, -1)", x.light(0, -1), -1);
        due("light(0, 13)", x.light(0, 13), -1);
        due("light(0, 12)", x.light(0, 12), 0);
        due("light(1, 12)", x.light(1, 12), 1);
        x.test(1, true);
        int[] want = {10, 2, 0, 0, 0, 995, 74, 360, 2940, 15, 0, 60, -9};
        for (int what = 0; what <= 12; what++) {
            due("tested: light(0, " + what + ")", x.light(0, what), want[what]);
        }
        due("light is no change", x.told(13), 4);
    }
}
