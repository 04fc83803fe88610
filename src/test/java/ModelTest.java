import java.util.Random;

/** All promises: long runs of calls by chance, each answered by the class as by the model. */
public final class ModelTest {
    private static final int RUNS = 330;
    /** An object is used for at most 512 calls; the last step of a run can be as many as 12, and a digest() follows. */
    private static final int CALLS = 512 - 12;
    private static final Check CHECK = new Check();

    private final Random chance;
    private final EscapeLights x = new EscapeLights();
    private final Model m = new Model();
    /** How far apart the lights lie at most: the nearer, the more often there is a plan. */
    private final int width;
    private String last;
    private int calls;

    private ModelTest(int run) {
        chance = new Random(run);
        width = run % 4 == 0 ? 201 : 10 + 10 * (run % 4);
    }

    public static void main(String[] args) {
        for (int run = 0; run < RUNS; run++) {
            ModelTest test = new ModelTest(run);
            while (test.calls < CALLS) {
                test.call(run);
            }
            CHECK.due("run " + run + ": digest()", test.x.digest(), test.m.digest());
        }
        plans();
        texts();
        CHECK.end();
    }

    private void due(int run, String call, long got, long want) {
        CHECK.due("run " + run + ": " + call + " behind " + last, got, want);
        last = call;
        calls++;
    }

    /** Mostly in the range, now and then just outside of it or far away. */
    private int number(int least, int most) {
        switch (chance.nextInt(40)) {
            case 0: return least - 1;
            case 1: return most + 1;
            case 2: return chance.nextInt();
            case 3: return least;
            case 4: return most;
            default: return least > most ? least : least + chance.nextInt(most - least + 1);
        }
    }

    private int place() {
        return chance.nextInt(20) == 0 ? number(0, 200) : number(0, width - 1);
    }

    private int aLight() {
        return number(0, m.told(0) - 1);
    }

    private int aSet() {
        return number(0, (1 << m.told(0)) - 1);
    }

    private void call(int run) {
        int kind = chance.nextInt(100);
        if (kind < 48) {
            change(run, kind);
        } else {
            look(run, chance.nextInt(11));
        }
    }

    private void change(int run, int kind) {
        boolean yes = chance.nextBoolean();
        int a = aLight();
        switch (kind) {
            case 0: case 1: case 2: case 3: case 4: case 5: case 6: case 7: {
                int place = place(), circuit = number(0, 3), battery = number(0, 3), lamp = number(0, 2);
                due(run, "add", x.add(place, circuit, battery, lamp), m.add(place, circuit, battery, lamp));
                break;
            }
            case 8: case 9:
                due(run, "drop", x.drop(a), m.drop(a));
                break;
            case 10: case 11: case 12:
                due(run, "maintain", x.maintain(a, yes), m.maintain(a, yes));
                break;
            case 13: case 14: case 15: case 16: {
                int from = place(), to = from + number(0, 12);
                due(run, "route", x.route(from, to), m.route(from, to));
                break;
            }
            case 17: case 18: {
                int r = number(0, m.told(2) - 1);
                due(run, "dropRoute", x.dropRoute(r), m.dropRoute(r));
                break;
            }
            case 19: {
                int need = yes ? number(1, 180) : number(1, 75);
                due(run, "setNeed", x.setNeed(need), m.setNeed(need));
                break;
            }
            case 20: case 21: {
                int lamp = number(0, 2), many = yes ? number(0, 2) : number(0, 99);
                due(run, "setStock", x.setStock(lamp, many), m.setStock(lamp, many));
                break;
            }
            case 22: case 23: {
                int lamp = number(0, 2);
                due(run, "swap", x.swap(a, lamp), m.swap(a, lamp));
                break;
            }
            case 24: case 25: {
                int rest = number(1, 9000);
                due(run, "swapAll", x.swapAll(rest), m.swapAll(rest));
                break;
            }
            case 26:
                due(run, "renew", x.renew(a), m.renew(a));
                break;
            case 27: case 28: case 29: case 30: case 31: case 32: {
                int hours = yes ? number(1, 30) : run % 3 == 0 ? number(1, 2000) : number(1, 100);
                due(run, "pass", x.pass(hours), m.pass(hours));
                break;
            }
            case 33: case 34: case 35: case 36: case 37: {
                int set = yes ? aSet() : 1 << Math.max(0, a);
                boolean force = chance.nextInt(4) == 0;
                due(run, "test", x.test(set, force), m.test(set, force));
                break;
            }
            case 38: case 39: case 40:
                due(run, "carryOut", x.carryOut(), m.carryOut());
                break;
            case 41: case 42: case 43: case 44:
                for (int k = chance.nextInt(yes ? 3 : 10); k >= 0; k--) {
                    due(run, "undo", x.undo(), m.undo());
                }
                break;
            case 45:
                due(run, "load", x.load(), m.load());
                break;
            case 46:
                due(run, "clear", x.clear(), m.clear());
                break;
            default:
                write(run, part(chance));
                break;
        }
    }

    private void look(int run, int kind) {
        int a = aLight(), set = aSet(), r = number(0, m.told(2) - 1), lamp = number(0, 2);
        switch (kind) {
            case 0: {
                int what = number(0, 12);
                due(run, "light " + what, x.light(a, what), m.light(a, what));
                break;
            }
            case 1: {
                int what = number(0, 6);
                due(run, "routeAt " + what, x.routeAt(r, what), m.routeAt(r, what));
                break;
            }
            case 2:
                due(run, "lasts", x.lasts(r, set), m.lasts(r, set));
                break;
            case 3: {
                int place = place();
                boolean ready = chance.nextBoolean();
                due(run, "reaching", x.reaching(place, ready), m.reaching(place, ready));
                break;
            }
            case 4:
                due(run, "allowed", x.allowed(set), m.allowed(set));
                break;
            case 5:
                due(run, "days", x.days(), m.days());
                break;
            case 6: {
                int day = number(0, 2);
                due(run, "day", x.day(day), m.day(day));
                break;
            }
            case 7:
                due(run, "ifLamp", x.ifLamp(a, lamp), m.ifLamp(a, lamp));
                break;
            case 8:
                if (chance.nextInt(8) == 0) {
                    due(run, "bestSwap", x.bestSwap(lamp), m.bestSwap(lamp));
                }
                break;
            case 9: {
                int what = number(0, 13);
                due(run, "told " + what, x.told(what), m.told(what));
                break;
            }
            default:
                if (chance.nextInt(8) == 0) {
                    due(run, "digest", x.digest(), m.digest());
                }
                break;
        }
    }

    private void write(int run, String part) {
        for (int k = 0; k < part.length(); k++) {
            due(run, "type", x.type(part.charAt(k)), m.type(part.charAt(k)));
        }
    }

    private static String part(Random chance) {
        if (chance.nextInt(3) > 0) {
            return "p" + chance.nextInt(205) + "c" + chance.nextInt(4) + "b" + chance.nextInt(4)
                + "l" + chance.nextInt(3) + (chance.nextBoolean() ? "m;" : ";");
        }
        int from = chance.nextInt(100);
        return "r" + from + "-" + (from + chance.nextInt(100)) + ";";
    }

    /** A part whose numbers are now and then too great, too small or too long. */
    private static String roughPart(Random chance) {
        if (chance.nextInt(3) > 0) {
            return "p" + digits(chance, 3, 205) + "c" + digits(chance, 1, 4) + "b" + digits(chance, 1, 4)
                + "l" + digits(chance, 1, 3) + (chance.nextBoolean() ? "m;" : ";");
        }
        return "r" + digits(chance, 3, 205) + "-" + digits(chance, 3, 205) + ";";
    }

    /** Mostly a number below a bound; now and then as many digits as may stand there, or one or two more. */
    private static String digits(Random chance, int many, int bound) {
        if (chance.nextInt(5) > 0) {
            return "" + chance.nextInt(bound);
        }
        StringBuilder number = new StringBuilder();
        for (int k = many + chance.nextInt(3); k > 0; k--) {
            number.append(chance.nextInt(10));
        }
        return number.toString();
    }

    /** Buildings by chance in which the lights lie close and the routes are mostly safe. */
    private static void plans() {
        Random chance = new Random(5);
        for (int n = 0; n < 400; n++) {
            EscapeLights x = new EscapeLights();
            Model m = new Model();
            int lights = 2 + chance.nextInt(n % 20 == 0 ? 9 : 6);
            for (int i = 0; i < lights; i++) {
                int place = 90 + chance.nextInt(2 * lights), circuit = chance.nextInt(4), lamp = chance.nextInt(3);
                x.add(place, circuit, 0, lamp);
                m.add(place, circuit, 0, lamp);
            }
            for (int r = chance.nextInt(7); r > 0; r--) {
                int from = 88 + chance.nextInt(2 * lights + 4), to = from + chance.nextInt(6);
                x.route(from, to);
                m.route(from, to);
            }
            String building = "building " + n + ": ";
            CHECK.due(building + "days()", x.days(), m.days());
            for (int day = 0; day < 4; day++) {
                CHECK.due(building + "day(" + day + ")", x.day(day), m.day(day));
            }
            for (int i = 0; i < lights; i++) {
                int lamp = chance.nextInt(3);
                CHECK.due(building + "ifLamp", x.ifLamp(i, lamp), m.ifLamp(i, lamp));
            }
            if (lights < 7) {
                int lamp = chance.nextInt(3);
                CHECK.due(building + "bestSwap", x.bestSwap(lamp), m.bestSwap(lamp));
            }
            CHECK.due(building + "carryOut()", x.carryOut(), m.carryOut());
            CHECK.due(building + "digest()", x.digest(), m.digest());
        }
    }

    /** Short texts by chance, most of them with a fault in them. */
    private static void texts() {
        Random chance = new Random(7);
        String signs = "prcblm;-0123459";
        for (int n = 0; n < 20000; n++) {
            StringBuilder text = new StringBuilder();
            for (int k = chance.nextInt(5); k >= 0; k--) {
                text.append(n % 4 == 0 ? roughPart(chance) : part(chance));
            }
            for (int k = chance.nextInt(3); k > 0; k--) {
                int at = chance.nextInt(text.length());
                char sign = signs.charAt(chance.nextInt(signs.length()));
                if (chance.nextBoolean()) {
                    text.setCharAt(at, sign);
                } else {
                    text.insert(at, sign);
                }
            }
            if (chance.nextBoolean()) {
                text.setLength(chance.nextInt(text.length() + 1));
            }
            EscapeLights x = new EscapeLights();
            Model m = new Model();
            for (int k = 0; k < text.length(); k++) {
                x.type(text.charAt(k));
                m.type(text.charAt(k));
            }
            CHECK.due("load() of " + text, x.load(), m.load());
            CHECK.due("digest() of " + text, n % 100 == 0 ? x.digest() : 0, n % 100 == 0 ? m.digest() : 0);
        }
    }
}
