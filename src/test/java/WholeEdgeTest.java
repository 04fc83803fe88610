import java.math.BigInteger;
import java.util.ArrayList;
import java.util.List;

/** Promises 27 and 29. */
public final class WholeEdgeTest {
    private static final Check CHECK = new Check();
    private static final int BAD = -1, NONE = -9;

    public static void main(String[] args) {
        toldOutside();
        toldLights();
        toldReady();
        toldRoutes();
        toldSafe();
        toldNeed();
        toldHours();
        toldStocks();
        toldBurntOut();
        toldPassedAndNot();
        toldBytes();
        toldStates();
        digestOfANewObject();
        digestWithoutAPlan();
        digestOfAll();
        digestWrapsAround();
        digestAfterUndo();
        CHECK.end();
    }

    private static void due(String call, long got, long want) {
        CHECK.due(call, got, want);
    }

    private static void toldOutside() {
        CHECK.sentence("Promise 27: BAD if what is not 0 to 13");
        EscapeLights x = Edge.lightsAt(10);
        for (int what : Edge.outside(0, 13)) {
            due("told(" + what + ")", x.told(what), BAD);
        }
        due("told(0)", x.told(0), 1);
        due("told(13)", x.told(13), 1);
    }

    private static void toldLights() {
        CHECK.sentence("Promise 27: 0 for the lights: none to 10");
        EscapeLights x = new EscapeLights();
        for (int many = 0; many <= 10; many++) {
            due("told(0)", x.told(0), many);
            x.add(many, 0, 0, 0);
        }
        due("told(0) after an 11th", x.told(0), 10);
    }

    private static void toldReady() {
        CHECK.sentence("Promise 27: 1 for those that are ready");
        EscapeLights x = new EscapeLights();
        due("told(1) without lights", x.told(1), 0);
        int[] endurance = {75, 112, 150, 225};
        for (int i = 0; i < 10; i++) {
            x.add(10, 0, i % 4, 0);
        }
        due("told(1) at 60", x.told(1), 10);
        int[] left = {10, 7, 4, 2};
        for (int battery = 0; battery < 3; battery++) {
            x.setNeed(endurance[battery]);
            due("told(1) at " + endurance[battery], x.told(1), left[battery]);
            x.setNeed(endurance[battery] + 1);
            due("told(1) above " + endurance[battery], x.told(1), left[battery + 1]);
        }
    }

    private static void toldRoutes() {
        CHECK.sentence("Promise 27: 2 for the routes: none to 6");
        EscapeLights x = new EscapeLights();
        for (int many = 0; many <= 6; many++) {
            due("told(2)", x.told(2), many);
            x.route(many, 10);
        }
        due("told(2) after a 7th", x.told(2), 6);
    }

    private static void toldSafe() {
        CHECK.sentence("Promise 27: 3 for those that are safe");
        EscapeLights x = Edge.lightsAt(10);
        due("told(3) without routes", x.told(3), 0);
        x.route(6, 14);
        due("told(3)", x.told(3), 1);
        x.route(5, 14);
        x.route(6, 15);
        due("told(3) with two that are not", x.told(3), 1);
        x.route(6, 6);
        x.route(14, 14);
        x.route(10, 11);
        due("told(3)", x.told(3), 4);
        x.setNeed(75);
        due("told(3) at the need", x.told(3), 4);
        x.setNeed(76);
        due("told(3) above it", x.told(3), 0);
    }

    private static void toldNeed() {
        CHECK.sentence("Promise 27: 4 for the need: 1 to 180");
        EscapeLights x = new EscapeLights();
        due("told(4)", x.told(4), 60);
        for (int need : new int[] {1, 2, 60, 127, 128, 179, 180}) {
            x.setNeed(need);
            due("told(4)", x.told(4), need);
        }
    }

    private static void toldHours() {
        CHECK.sentence("Promise 27: 5 for the hours that have passed: 0 to 100000");
        EscapeLights x = new EscapeLights();
        due("told(5)", x.told(5), 0);
        for (int k = 1; k <= 50; k++) {
            x.pass(2000);
            due("told(5)", x.told(5), 2000 * k);
        }
        x.pass(1);
        due("told(5)", x.told(5), 100000);
    }

    private static void toldStocks() {
        CHECK.sentence("Promise 27: 6 to 8 for the stocks of the kinds 0 to 2");
        EscapeLights x = new EscapeLights();
        for (int lamp = 0; lamp <= 2; lamp++) {
            x.setStock(lamp, 99 - lamp);
        }
        due("told(6)", x.told(6), 99);
        due("told(7)", x.told(7), 98);
        due("told(8)", x.told(8), 97);
        x.setStock(1, 0);
        due("told(6)", x.told(6), 99);
        due("told(7)", x.told(7), 0);
        due("told(8)", x.told(8), 97);
    }

    private static void toldBurntOut() {
        CHECK.sentence("Promise 27: 9 for the lamps that are burnt out");
        EscapeLights x = new EscapeLights();
        due("told(9) without lights", x.told(9), 0);
        for (int i = 0; i < 10; i++) {
            x.add(10, 0, 0, i % 3);
            x.maintain(i, true);
        }
        int[] hours = {49, 1, 49, 1, 49, 1};
        int[] want = {0, 4, 4, 7, 7, 10};
        for (int k = 0; k < hours.length; k++) {
            x.pass(hours[k]);
            due("told(9) after step " + k, x.told(9), want[k]);
        }
        x.drop(0);
        due("told(9) of 9", x.told(9), 9);
    }

    private static void toldPassedAndNot() {
        CHECK.sentence("Promise 27: 10 for how often a light has passed a test so far, 11 for how often one has not");
        EscapeLights x = Edge.lightsAt(1, 2, 3, 4, 5, 6, 7, 8, 9, 10);
        for (int k = 1; k <= 40; k++) {
            x.test(1023, true);
            due("told(10)", x.told(10), 10);
            due("told(11)", x.told(11), 10 * k - 10);
        }
        for (int k = 0; k < 10; k++) {
            x.drop(0);
        }
        due("told(10) without lights", x.told(10), 10);
        due("told(11) without lights", x.told(11), 390);
    }

    private static void toldBytes() {
        CHECK.sentence("Promise 27: 12 for the bytes of the text buffer: 0 to 80");
        EscapeLights x = new EscapeLights();
        due("told(12)", x.told(12), 0);
        for (int n = 1; n <= 80; n++) {
            x.type(126);
            due("told(12)", x.told(12), n);
        }
        x.type(126);
        due("told(12)", x.told(12), 80);
        x.clear();
        due("told(12)", x.told(12), 0);
    }

    private static void toldStates() {
        CHECK.sentence("Promise 27: 13 for the remembered states: 0 to 8");
        EscapeLights x = new EscapeLights();
        due("told(13)", x.told(13), 0);
        for (int k = 1; k <= 10; k++) {
            x.setStock(0, k);
            due("told(13)", x.told(13), Math.min(k, 8));
        }
        for (int k = 7; k >= 0; k--) {
            x.undo();
            due("told(13)", x.told(13), k);
        }
        x.undo();
        due("told(13)", x.told(13), 0);
    }

    /** The hash of values that are written out here, not asked for. */
    private static long hash(List<Integer> values) {
        long h = 18752;
        for (int v : values) {
            h = 31 * h + v;
        }
        return h;
    }

    private static void put(List<Integer> values, int... more) {
        for (int v : more) {
            values.add(v);
        }
    }

    private static void digestOfANewObject() {
        CHECK.sentence("Promise 29: h is 18752 at first: nothing there at all");
        List<Integer> values = new ArrayList<>();
        put(values, 0, 0, 0, 0, 60, 0, 0, 0, 0, 0, 0, 0, 0, 0);
        put(values, 0);
        put(values, new int[82]);
        due("digest()", new EscapeLights().digest(), hash(values));
    }

    private static void digestWithoutAPlan() {
        CHECK.sentence("Promise 29: days(); for each day of the best plan day(): there is none");
        EscapeLights x = new EscapeLights();
        x.add(10, 1, 0, 0);
        x.route(8, 12);
        List<Integer> values = new ArrayList<>();
        put(values, 1, 1, 1, 1, 60, 0, 0, 0, 0, 0, 0, 0, 0, 2);
        put(values, 10, 1, 0, 0, 0, 1000, 75, 1800, 3000, 75, 1, NONE, NONE);
        put(values, 8, 12, 0, 1, 75, 0, 1);
        put(values, NONE);
        for (int place = 0; place <= 200; place += 5) {
            put(values, place == 10 ? 1 : 0, place == 10 ? 1 : 0);
        }
        due("digest()", x.digest(), hash(values));
    }

    /** Lights at both ends of the building, one of which is not ready, and a plan of two days. */
    private static void digestOfAll() {
        CHECK.sentence("Promise 29: for each of these values v, in this order");
        EscapeLights x = new EscapeLights();
        x.add(0, 0, 0, 1);
        x.add(196, 3, 1, 0);
        x.add(196, 2, 3, 0);
        x.add(196, 2, 2, 0);
        x.setStock(2, 99);
        x.setStock(0, 98);
        x.setStock(1, 97);
        x.test(1, true);
        x.pass(2);
        x.route(200, 200);
        x.route(0, 0);
        x.type('p');
        List<Integer> values = new ArrayList<>();
        put(values, 4, 3, 2, 1, 60, 2, 98, 97, 99, 0, 1, 0, 1, 8);
        put(values, 0, 0, 0, 1, 0, 995, 74, 508, 5940, 21, 0, 60, 0);
        put(values, 196, 3, 1, 0, 0, 1000, 112, 2688, 3000, 112, 1, NONE, 0);
        put(values, 196, 2, 3, 0, 0, 1000, 225, 5400, 3000, 225, 1, NONE, 1);
        put(values, 196, 2, 2, 0, 0, 1000, 150, 3600, 3000, 150, 1, NONE, 1);
        put(values, 200, 200, 0, 1, 225, 112, 2);
        put(values, 0, 0, 1, 0, 21, 0, 0);
        put(values, 2, 3, 12);
        for (int place = 0; place <= 200; place += 5) {
            put(values, place <= 5 ? 1 : place >= 195 ? 3 : 0, place >= 195 ? 3 : 0);
        }
        due("digest()", x.digest(), hash(values));
    }

    private static void digestWrapsAround() {
        CHECK.sentence("Promise 29: long arithmetic that wraps around");
        BigInteger exact = BigInteger.valueOf(18752);
        for (int k = 0; k < 14 + 1 + 82; k++) {
            exact = exact.multiply(BigInteger.valueOf(31)).add(BigInteger.valueOf(k == 4 ? 60 : 0));
        }
        CHECK.holds("more than a long holds", exact.bitLength() > 64);
        due("digest()", new EscapeLights().digest(), exact.longValue());
    }

    private static void digestAfterUndo() {
        CHECK.sentence("Promise 29: Computes a hash of the whole object: after a change and undo() it is as before");
        EscapeLights x = Edge.lightsAt(10, 10);
        x.route(10, 10);
        long before = x.digest();
        x.type('p');
        CHECK.holds("another hash with a byte more", x.digest() != before);
        x.clear();
        due("digest() after clear()", x.digest(), before);
        x.setStock(1, 0);
        CHECK.holds("another hash with a state more", x.digest() != before);
        x.undo();
        due("digest() after undo()", x.digest(), before);
        due("digest() again", x.digest(), before);
    }
}
