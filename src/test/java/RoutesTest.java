/** Promises 19 to 21: routes. */
public final class RoutesTest {
    private static final Check CHECK = new Check();

    public static void main(String[] args) {
        routeAt();
        routeWithoutLights();
        circuits();
        lasts();
        reaching();
        CHECK.end();
    }

    private static void due(String call, long got, long want) {
        CHECK.due(call, got, want);
    }

    /** 75 minutes at 6 to 14, 112 at 9 to 21, 225 at 16 to 34. */
    private static EscapeLights threeLights() {
        EscapeLights x = new EscapeLights();
        x.add(10, 0, 0, 0);
        x.add(15, 1, 1, 1);
        x.add(25, 1, 3, 2);
        return x;
    }

    private static void dueOf(EscapeLights x, int r, int... want) {
        for (int what = 0; what <= 6; what++) {
            due("routeAt(" + r + ", " + what + ")", x.routeAt(r, what), want[what]);
        }
    }

    /** Promise 19. */
    private static void routeAt() {
        EscapeLights x = threeLights();
        due("routeAt(0, 0) of none", x.routeAt(0, 0), -1);
        x.route(6, 34);
        x.route(5, 35);
        x.route(14, 16);
        x.route(17, 17);
        due("routeAt(-1, 0)", x.routeAt(-1, 0), -1);
        due("routeAt(4, 0)", x.routeAt(4, 0), -1);
        due("routeAt(0, -1)", x.routeAt(0, -1), -1);
        due("routeAt(0, 7)", x.routeAt(0, 7), -1);
        dueOf(x, 0, 6, 34, 0, 1, 75, 0, 0);
        dueOf(x, 1, 5, 35, 2, 0, 0, 0, 0);
        dueOf(x, 2, 14, 16, 0, 1, 112, 0, 1);
        dueOf(x, 3, 17, 17, 0, 1, 225, 0, 1);
        x.setNeed(75);
        dueOf(x, 0, 6, 34, 0, 1, 75, 0, 0);
        x.setNeed(76);
        dueOf(x, 0, 6, 34, 3, 0, 75, 0, 0);
        dueOf(x, 2, 14, 16, 0, 1, 112, 0, 1);
        x.setNeed(113);
        dueOf(x, 0, 6, 34, 10, 0, 75, 0, 0);
        dueOf(x, 3, 17, 17, 0, 1, 225, 0, 1);
        x.test(4, true);
        dueOf(x, 3, 17, 17, 1, 0, 112, 0, 1);
        due("routeAt is no change", x.told(13), 8);
    }

    private static void routeWithoutLights() {
        EscapeLights x = new EscapeLights();
        x.route(0, 200);
        dueOf(x, 0, 0, 200, 201, 0, 0, 0, 0);
        x.add(0, 0, 0, 2);
        x.add(200, 3, 0, 2);
        dueOf(x, 0, 0, 200, 181, 0, 0, 0, 0);
        x.route(0, 9);
        x.route(191, 200);
        x.route(190, 190);
        dueOf(x, 1, 0, 9, 0, 1, 75, 0, 0);
        dueOf(x, 2, 191, 200, 0, 1, 75, 0, 3);
        dueOf(x, 3, 190, 190, 1, 0, 0, 0, 0);
        lightsAtTheEnds();
    }

    /** The first and the last place, when their lights come and go. */
    private static void lightsAtTheEnds() {
        EscapeLights x = new EscapeLights();
        x.add(5, 0, 3, 1);
        x.add(195, 1, 3, 1);
        x.route(0, 1);
        x.route(199, 200);
        dueOf(x, 0, 0, 1, 0, 1, 225, 0, 0);
        dueOf(x, 1, 199, 200, 0, 1, 225, 0, 1);
        x.setStock(0, 2);
        x.swap(0, 0);
        x.swap(1, 0);
        dueOf(x, 0, 0, 1, 1, 0, 0, 0, 0);
        dueOf(x, 1, 199, 200, 1, 0, 0, 0, 0);
        due("told(3)", x.told(3), 0);
        EscapeLights y = new EscapeLights();
        y.add(0, 0, 0, 0);
        due("told(3) without routes", y.told(3), 0);
    }

    /** Circuits without lights count too, and the first one of equal ones is told. */
    private static void circuits() {
        EscapeLights x = new EscapeLights();
        x.add(10, 3, 0, 0);
        x.add(10, 3, 2, 0);
        x.add(10, 2, 1, 0);
        x.add(10, 1, 0, 0);
        x.route(10, 14);
        dueOf(x, 0, 10, 14, 0, 1, 150, 112, 3);
        x.add(10, 1, 3, 0);
        dueOf(x, 0, 10, 14, 0, 1, 225, 150, 1);
        x.add(10, 0, 3, 0);
        dueOf(x, 0, 10, 14, 0, 1, 225, 225, 0);
        EscapeLights y = new EscapeLights();
        y.add(10, 0, 0, 0);
        y.add(10, 0, 1, 0);
        y.add(10, 1, 2, 0);
        y.add(10, 2, 3, 0);
        y.route(10, 10);
        dueOf(y, 0, 10, 10, 0, 1, 225, 150, 2);
        y.test(8, true);
        dueOf(y, 0, 10, 10, 0, 1, 150, 112, 1);
        EscapeLights alone = new EscapeLights();
        alone.add(10, 2, 3, 0);
        alone.route(10, 10);
        dueOf(alone, 0, 10, 10, 0, 1, 225, 0, 2);
        // without circuit 0, 1, 2, 3 it lasts 225, 75, 112, 225 minutes
        EscapeLights z = new EscapeLights();
        z.add(10, 1, 3, 2);
        z.add(10, 3, 0, 2);
        z.add(20, 2, 3, 2);
        z.add(20, 3, 1, 2);
        z.route(9, 21);
        dueOf(z, 0, 9, 21, 0, 1, 225, 75, 1);
    }

    /** Promise 20. */
    private static void lasts() {
        EscapeLights x = threeLights();
        due("lasts(0, 0) of none", x.lasts(0, 0), -1);
        x.route(9, 21);
        x.route(16, 21);
        due("lasts(2, 0)", x.lasts(2, 0), -1);
        due("lasts(-1, 0)", x.lasts(-1, 0), -1);
        due("lasts(0, -1)", x.lasts(0, -1), -1);
        due("lasts(0, 8)", x.lasts(0, 8), -1);
        due("lasts(0, 9)", x.lasts(0, 9), -1);
        int[] first = {0, 0, 112, 112, 0, 0, 112, 112};
        int[] second = {0, 0, 112, 112, 225, 225, 225, 225};
        for (int set = 0; set < 8; set++) {
            due("lasts(0, " + set + ")", x.lasts(0, set), first[set]);
            due("lasts(1, " + set + ")", x.lasts(1, set), second[set]);
        }
        x.setNeed(180);
        due("lasts(0, 2) though it is not ready", x.lasts(0, 2), 112);
        x.setStock(0, 1);
        x.test(2, true);
        due("lasts(0, 2) after a test", x.lasts(0, 2), 22);
        x.renew(1);
        due("lasts(0, 2) without charge", x.lasts(0, 2), 0);
    }

    /** Promise 21. */
    private static void reaching() {
        EscapeLights x = threeLights();
        due("reaching(-1, false)", x.reaching(-1, false), -1);
        due("reaching(201, true)", x.reaching(201, true), -1);
        int[] places = {0, 5, 6, 8, 9, 14, 15, 16, 21, 22, 34, 35, 200};
        int[] many = {0, 0, 1, 1, 2, 2, 1, 2, 2, 1, 1, 0, 0};
        for (int k = 0; k < places.length; k++) {
            due("reaching(" + places[k] + ", false)", x.reaching(places[k], false), many[k]);
            due("reaching(" + places[k] + ", true)", x.reaching(places[k], true), many[k]);
        }
        x.setNeed(76);
        due("reaching(9, false)", x.reaching(9, false), 2);
        due("reaching(9, true)", x.reaching(9, true), 1);
        x.renew(1);
        due("reaching(9, true)", x.reaching(9, true), 0);
        due("reaching(16, true)", x.reaching(16, true), 1);
        due("reaching(16, false)", x.reaching(16, false), 2);
    }
}
