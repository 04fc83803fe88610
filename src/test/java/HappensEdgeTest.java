/** Promises 13 to 16. */
public final class HappensEdgeTest {
    private static final Check CHECK = new Check();
    private static final int BAD = -1, STATE = -2, FULL = -3;

    public static void main(String[] args) {
        swapOutside();
        swapWithoutStock();
        swapOfTheLastLamp();
        swapChangesTheLampAlone();
        swapOfAnyKind();
        swapAllOutside();
        swapAllBelowTheRest();
        swapAllOfTheLeastRest();
        swapAllOfTheGreatestRest();
        swapAllWithoutStock();
        swapAllOfTheSameKind();
        swapAllOfTheGreatestKind();
        swapAllNoSmallerReach();
        swapAllInAscendingOrder();
        swapAllOfTenLights();
        swapAllChangesTheLampsAlone();
        renewOfNone();
        renewOfANewOne();
        renewOfAWornOne();
        renewChangesTheBatteryAlone();
        passOutside();
        passAtTheEnds();
        passUpToTheLastHour();
        passReturnsReadyOnes();
        CHECK.end();
    }

    private static void due(String call, long got, long want) {
        CHECK.due(call, got, want);
    }

    private static EscapeLights lights(int... kinds) {
        EscapeLights x = new EscapeLights();
        for (int kind : kinds) {
            x.add(10, 0, 0, kind);
        }
        return x;
    }

    private static void stocks(EscapeLights x, int... many) {
        for (int lamp = 0; lamp <= 2; lamp++) {
            x.setStock(lamp, many[lamp]);
        }
    }

    private static void dueStocks(EscapeLights x, int... many) {
        for (int lamp = 0; lamp <= 2; lamp++) {
            due("told(" + (6 + lamp) + ")", x.told(6 + lamp), many[lamp]);
        }
    }

    private static void dueKinds(EscapeLights x, int... kinds) {
        for (int i = 0; i < kinds.length; i++) {
            due("light(" + i + ", 3)", x.light(i, 3), kinds[i]);
        }
    }

    private static void swapOutside() {
        CHECK.sentence("Promise 13: BAD if there is no such light or kind");
        for (int many = 0; many <= 10; many++) {
            EscapeLights x = lights(new int[many]);
            stocks(x, 99, 99, 99);
            for (int i : Edge.noNumber(many)) {
                due("swap(" + i + ", 0) of " + many, x.swap(i, 0), BAD);
                due("swap(" + i + ", 2) of " + many, x.swap(i, 2), BAD);
            }
            for (int lamp : Edge.outside(0, 2)) {
                due("swap(0, " + lamp + ") of " + many, x.swap(0, lamp), BAD);
            }
            dueStocks(x, 99, 99, 99);
            if (many > 0) {
                due("swap(" + (many - 1) + ", 2)", x.swap(many - 1, 2), 98);
                due("light(" + (many - 1) + ", 3)", x.light(many - 1, 3), 2);
            }
        }
    }

    private static void swapWithoutStock() {
        CHECK.sentence("Promise 13: STATE if the stock of this kind is 0");
        for (int lamp = 0; lamp <= 2; lamp++) {
            EscapeLights x = lights(0);
            stocks(x, 1, 1, 1);
            x.setStock(lamp, 0);
            due("swap(0, " + lamp + ")", x.swap(0, lamp), STATE);
            due("swap(1, " + lamp + "): BAD comes first", x.swap(1, lamp), BAD);
            due("light(0, 3)", x.light(0, 3), 0);
            due("told(" + (6 + lamp) + ")", x.told(6 + lamp), 0);
            due("told(13)", x.told(13), 5);
            due("swap of another kind", x.swap(0, (lamp + 1) % 3), 0);
        }
    }

    private static void swapOfTheLastLamp() {
        CHECK.sentence("Promise 13: Returns how many lamps of this kind are left in the stock");
        for (int lamp = 0; lamp <= 2; lamp++) {
            EscapeLights x = lights(1);
            stocks(x, 99, 99, 99);
            due("swap(0, " + lamp + ") of 99", x.swap(0, lamp), 98);
            x.setStock(lamp, 2);
            due("swap(0, " + lamp + ") of 2", x.swap(0, lamp), 1);
            due("swap(0, " + lamp + ") of 1", x.swap(0, lamp), 0);
            due("swap(0, " + lamp + ") of 0", x.swap(0, lamp), STATE);
            due("the other stocks", x.told(6) + x.told(7) + x.told(8), 198);
        }
    }

    private static void swapChangesTheLampAlone() {
        CHECK.sentence("Promise 13: Puts a new lamp, perhaps of another kind, into a light");
        EscapeLights x = new EscapeLights();
        x.add(10, 3, 1, 0);
        x.add(10, 3, 1, 0);
        x.maintain(0, true);
        x.test(3, true);
        x.pass(2);
        x.setStock(1, 1);
        due("swap(0, 1)", x.swap(0, 1), 0);
        int[] swapped = {10, 3, 1, 1, 1, 996, 112, 528 + 224, 6000, 31, 0, 90, 0};
        int[] other = {10, 3, 1, 0, 0, 996, 112, 528 + 224, 2910, 31, 0, 90, 0};
        for (int what = 0; what <= 12; what++) {
            due("light(0, " + what + ")", x.light(0, what), swapped[what]);
            due("light(1, " + what + ")", x.light(1, what), other[what]);
        }
        x.pass(1);
        due("light(0, 8) an hour later", x.light(0, 8), 5940);
    }

    private static void swapOfAnyKind() {
        CHECK.sentence("Promise 13: lamp: the kind of the new lamp, 0 to 2, perhaps the one that it has or one of a smaller reach");
        int[] reach = {4, 6, 9};
        for (int before = 0; before <= 2; before++) {
            for (int lamp = 0; lamp <= 2; lamp++) {
                EscapeLights x = lights(before);
                x.setStock(lamp, 1);
                due("swap(0, " + lamp + ") of kind " + before, x.swap(0, lamp), 0);
                due("light(0, 3)", x.light(0, 3), lamp);
                due("light(0, 8)", x.light(0, 8), 3000 * (lamp + 1));
                due("reaching its last place", x.reaching(10 + reach[lamp], false), 1);
                due("reaching one more", x.reaching(11 + reach[lamp], false), 0);
            }
        }
    }

    private static void swapAllOutside() {
        CHECK.sentence("Promise 14: rest: 1 to 9000; BAD if rest is out of range");
        EscapeLights x = lights(0, 1, 2);
        stocks(x, 99, 99, 99);
        for (int rest : Edge.outside(1, 9000)) {
            due("swapAll(" + rest + ")", x.swapAll(rest), BAD);
        }
        due("swapAll(0)", x.swapAll(0), BAD);
        dueStocks(x, 99, 99, 99);
        due("told(13)", x.told(13), 6);
    }

    private static void swapAllBelowTheRest() {
        CHECK.sentence("Promise 14: for each light whose lamp has a rest of less than some minutes");
        EscapeLights x = lights(0);
        stocks(x, 9, 0, 0);
        due("swapAll(2999)", x.swapAll(2999), 0);
        due("swapAll(3000) with a rest of 3000", x.swapAll(3000), 0);
        due("swapAll(3001) with a rest of 3000", x.swapAll(3001), 1);
        x.test(1, true);
        due("swapAll(2940) with a rest of 2940", x.swapAll(2940), 0);
        due("swapAll(2941) with a rest of 2940", x.swapAll(2941), 1);
        due("light(0, 8)", x.light(0, 8), 3000);
        dueStocks(x, 7, 0, 0);
    }

    private static void swapAllOfTheLeastRest() {
        CHECK.sentence("Promise 14: rest: 1 to 9000: 1 swaps the lamps that are burnt out, and no other");
        EscapeLights x = lights(0, 0, 0);
        stocks(x, 9, 0, 0);
        x.maintain(0, true);
        x.maintain(1, true);
        x.pass(49);
        x.maintain(1, false);
        due("swapAll(1) with rests of 60", x.swapAll(1), 0);
        x.pass(1);
        due("told(9)", x.told(9), 1);
        due("swapAll(1)", x.swapAll(1), 1);
        due("light(0, 8)", x.light(0, 8), 3000);
        due("light(1, 8)", x.light(1, 8), 60);
        due("swapAll(60)", x.swapAll(60), 0);
        due("swapAll(61)", x.swapAll(61), 1);
        due("light(1, 8)", x.light(1, 8), 3000);
    }

    private static void swapAllOfTheGreatestRest() {
        CHECK.sentence("Promise 14: rest: 1 to 9000: 9000 leaves a new lamp of kind 2");
        EscapeLights x = lights(2, 2, 1, 0);
        stocks(x, 9, 9, 9);
        x.maintain(0, true);
        x.pass(1);
        due("swapAll(9000)", x.swapAll(9000), 3);
        dueStocks(x, 8, 8, 8);
        due("light(0, 8)", x.light(0, 8), 9000);
        due("swapAll(9000) again", x.swapAll(9000), 2);
        dueStocks(x, 7, 7, 8);
    }

    private static void swapAllWithoutStock() {
        CHECK.sentence("Promise 14: if there is one left in the stock (otherwise none): an empty stock");
        EscapeLights x = lights(0, 1, 2);
        x.test(7, true);
        due("swapAll(9000)", x.swapAll(9000), 0);
        dueKinds(x, 0, 1, 2);
        for (int i = 0; i < 3; i++) {
            due("light(" + i + ", 8)", x.light(i, 8), 3000 * (i + 1) - 60);
        }
        dueStocks(x, 0, 0, 0);
        due("told(13)", x.told(13), 5);
    }

    private static void swapAllOfTheSameKind() {
        CHECK.sentence("Promise 14: a lamp of the same kind, if there is one left in the stock");
        for (int kind = 0; kind <= 2; kind++) {
            EscapeLights x = lights(kind);
            x.test(1, true);
            stocks(x, 1, 1, 1);
            due("swapAll(9000) of kind " + kind, x.swapAll(9000), 1);
            dueKinds(x, kind);
            due("told(" + (6 + kind) + ")", x.told(6 + kind), 0);
            due("the stocks", x.told(6) + x.told(7) + x.told(8), 2);
        }
    }

    private static void swapAllOfTheGreatestKind() {
        CHECK.sentence("Promise 14: otherwise one of the greatest kind of which there is one");
        int[] kind = {0, 0, 0, 1, 1};
        int[][] stock = {{0, 1, 1}, {0, 1, 0}, {0, 0, 1}, {0, 0, 1}, {1, 0, 1}};
        int[] put = {2, 1, 2, 2, 2};
        for (int k = 0; k < kind.length; k++) {
            EscapeLights x = lights(kind[k]);
            stocks(x, stock[k]);
            due("swapAll(9000), case " + k, x.swapAll(9000), 1);
            dueKinds(x, put[k]);
            due("told(" + (6 + put[k]) + ")", x.told(6 + put[k]), 0);
            due("light(0, 8)", x.light(0, 8), 3000 * (put[k] + 1));
        }
    }

    private static void swapAllNoSmallerReach() {
        CHECK.sentence("Promise 14: if the reach of that kind is not smaller (otherwise none)");
        int[] kind = {1, 2, 2, 2};
        int[][] stock = {{1, 0, 0}, {1, 0, 0}, {0, 1, 0}, {1, 1, 0}};
        for (int k = 0; k < kind.length; k++) {
            EscapeLights x = lights(kind[k]);
            x.test(1, true);
            stocks(x, stock[k]);
            due("swapAll(9000), case " + k, x.swapAll(9000), 0);
            dueKinds(x, kind[k]);
            dueStocks(x, stock[k]);
            due("light(0, 8)", x.light(0, 8), 3000 * (kind[k] + 1) - 60);
            due("told(13)", x.told(13), 6);
        }
    }

    private static void swapAllInAscendingOrder() {
        CHECK.sentence("Promise 14: for each light in ascending order: as long as there are lamps");
        EscapeLights x = lights(0, 0, 0, 0, 0);
        stocks(x, 1, 1, 1);
        due("swapAll(9000)", x.swapAll(9000), 3);
        dueKinds(x, 0, 2, 1, 0, 0);
        dueStocks(x, 0, 0, 0);
        EscapeLights y = lights(1, 2, 1, 0);
        y.test(15, true);
        stocks(y, 1, 0, 1);
        due("swapAll(9000): light 0 takes the lamp of light 1", y.swapAll(9000), 2);
        dueKinds(y, 2, 2, 1, 0);
        due("light(0, 8)", y.light(0, 8), 9000);
        due("light(1, 8)", y.light(1, 8), 8940);
        due("light(2, 8)", y.light(2, 8), 5940);
        due("light(3, 8)", y.light(3, 8), 3000);
        dueStocks(y, 0, 0, 0);
    }

    private static void swapAllOfTenLights() {
        CHECK.sentence("Promise 14: Returns how many lamps were put in: none to 10");
        EscapeLights none = new EscapeLights();
        stocks(none, 9, 9, 9);
        due("swapAll(9000) without lights", none.swapAll(9000), 0);
        for (int stock = 0; stock <= 12; stock++) {
            EscapeLights x = lights(0, 0, 0, 0, 0, 0, 0, 0, 0, 0);
            x.setStock(0, stock);
            due("swapAll(9000) with " + stock, x.swapAll(9000), Math.min(stock, 10));
            due("told(6)", x.told(6), Math.max(stock - 10, 0));
        }
    }

    private static void swapAllChangesTheLampsAlone() {
        CHECK.sentence("Promise 14: Puts new lamps into lights: all else stays");
        EscapeLights x = new EscapeLights();
        x.add(10, 3, 1, 0);
        x.maintain(0, true);
        x.test(1, true);
        x.pass(2);
        x.setStock(2, 1);
        due("swapAll(2800)", x.swapAll(2800), 1);
        int[] want = {10, 3, 1, 2, 1, 996, 112, 528 + 224, 9000, 31, 0, 90, 0};
        for (int what = 0; what <= 12; what++) {
            due("light(0, " + what + ")", x.light(0, what), want[what]);
        }
    }

    private static void renewOfNone() {
        CHECK.sentence("Promise 15: BAD if there is no such light");
        for (int many = 0; many <= 10; many++) {
            EscapeLights x = lights(new int[many]);
            for (int i : Edge.noNumber(many)) {
                due("renew(" + i + ") of " + many, x.renew(i), BAD);
            }
            if (many > 0) {
                due("renew(" + (many - 1) + ")", x.renew(many - 1), 1000);
                due("light(" + (many - 1) + ", 7)", x.light(many - 1, 7), 0);
            }
        }
    }

    private static void renewOfANewOne() {
        CHECK.sentence("Promise 15: its health is 1000, its charge 0: of a new battery");
        for (int battery = 0; battery <= 3; battery++) {
            EscapeLights x = new EscapeLights();
            x.add(10, 0, battery, 0);
            due("renew(0)", x.renew(0), 1000);
            due("light(0, 5)", x.light(0, 5), 1000);
            due("light(0, 7)", x.light(0, 7), 0);
            due("light(0, 2)", x.light(0, 2), battery);
            due("light(0, 9)", x.light(0, 9), 0);
            due("light(0, 10)", x.light(0, 10), 0);
            due("renew(0) again", x.renew(0), 1000);
        }
    }

    private static void renewOfAWornOne() {
        CHECK.sentence("Promise 15: Returns the health before: down to 0");
        EscapeLights x = lights(0);
        x.test(1, true);
        due("renew(0)", x.renew(0), 995);
        Edge.test(x, 1, 199);
        due("renew(0)", x.renew(0), 5);
        Edge.test(x, 1, 200);
        due("light(0, 5)", x.light(0, 5), 0);
        due("renew(0)", x.renew(0), 0);
        due("light(0, 5)", x.light(0, 5), 1000);
        due("light(0, 6)", x.light(0, 6), 75);
        due("light(0, 7)", x.light(0, 7), 0);
        x.pass(24);
        due("light(0, 7)", x.light(0, 7), 1800);
    }

    private static void renewChangesTheBatteryAlone() {
        CHECK.sentence("Promise 15: Puts a new battery of the same class into a light: all else stays");
        EscapeLights x = new EscapeLights();
        x.add(10, 3, 1, 2);
        x.add(10, 3, 1, 2);
        x.maintain(0, true);
        x.test(3, true);
        x.pass(2);
        due("renew(0)", x.renew(0), 996);
        int[] renewed = {10, 3, 1, 2, 1, 1000, 112, 0, 9000 - 90 - 120, 0, 0, 90, 0};
        int[] other = {10, 3, 1, 2, 0, 996, 112, 752, 8910, 31, 0, 90, 0};
        for (int what = 0; what <= 12; what++) {
            due("light(0, " + what + ")", x.light(0, what), renewed[what]);
            due("light(1, " + what + ")", x.light(1, what), other[what]);
        }
    }

    private static void passOutside() {
        CHECK.sentence("Promise 16: hours: 1 to 2000; BAD if hours is out of range");
        EscapeLights x = lights(0);
        for (int hours : Edge.outside(1, 2000)) {
            due("pass(" + hours + ")", x.pass(hours), BAD);
        }
        due("pass(0)", x.pass(0), BAD);
        due("told(5)", x.told(5), 0);
        due("told(13)", x.told(13), 1);
    }

    private static void passAtTheEnds() {
        CHECK.sentence("Promise 16: hours: 1 to 2000: the ends");
        EscapeLights x = lights(0);
        due("pass(1)", x.pass(1), 1);
        due("told(5)", x.told(5), 1);
        due("pass(2000)", x.pass(2000), 1);
        due("told(5)", x.told(5), 2001);
        due("light(0, 5)", x.light(0, 5), 998);
        due("pass(1999)", x.pass(1999), 1);
        due("told(5)", x.told(5), 4000);
        due("light(0, 5)", x.light(0, 5), 996);
    }

    private static void passUpToTheLastHour() {
        CHECK.sentence("Promise 16: FULL if more than 100000 hours would have passed");
        EscapeLights x = lights(0);
        Edge.pass(x, 98001);
        due("pass(2000) from 98001", x.pass(2000), FULL);
        due("told(5)", x.told(5), 98001);
        due("pass(1999) from 98001", x.pass(1999), 1);
        due("told(5)", x.told(5), 100000);
        due("pass(1) from 100000", x.pass(1), FULL);
        due("pass(2000) from 100000", x.pass(2000), FULL);
        due("pass(2001): BAD comes first", x.pass(2001), BAD);
        due("pass(0): BAD comes first", x.pass(0), BAD);
        due("told(5)", x.told(5), 100000);
        x.undo();
        due("pass(1998) from 98001", x.pass(1998), 1);
        due("pass(2) from 99999", x.pass(2), FULL);
        due("pass(1) from 99999", x.pass(1), 1);
        EscapeLights y = new EscapeLights();
        Edge.pass(y, 98000);
        due("pass(2000) from 98000", y.pass(2000), 0);
        due("told(5)", y.told(5), 100000);
        due("pass(1) without lights", y.pass(1), FULL);
    }

    private static void passReturnsReadyOnes() {
        CHECK.sentence("Promise 16: Returns how many lights are ready then");
        EscapeLights none = new EscapeLights();
        due("pass(1) without lights", none.pass(1), 0);
        EscapeLights x = lights(0, 0, 0, 0, 0, 0, 0, 0, 0, 0);
        due("pass(1) of 10", x.pass(1), 10);
        for (int i = 0; i < 10; i++) {
            x.renew(i);
        }
        due("pass(19): 59 minutes", x.pass(19), 0);
        due("pass(1): 62 minutes", x.pass(1), 10);
        x.maintain(3, true);
        due("pass(49): a rest of 60", x.pass(49), 10);
        due("pass(1): a rest of 0", x.pass(1), 9);
    }
}
