/** The paragraph TEXTS, and promises 2 to 4. */
public final class TextsEdgeTest {
    private static final Check CHECK = new Check();
    private static final int BAD = -1, FULL = -3;
    private static final String LIGHT = "p1c0b0l0;";
    private static final String ROUTE = "r1-1;";

    public static void main(String[] args) {
        bytesOutOfRange();
        bytesInRange();
        eightyBytes();
        typeAppends();
        clearOfNothing();
        clearOfAll();
        emptyText();
        textOf80Bytes();
        textOf80BytesThatEndsTooEarly();
        textOf80BytesWithAFaultAtItsLast();
        textStays();
        allElseStays();
        loadedLightsAreNew();
        moreAndFewerThanBefore();
        isAChange();
        faultChangesNothing();
        eachPartEndsWithASemicolon();
        endsTooEarly();
        wrongByteAnywhere();
        place();
        circuit();
        battery();
        lamp();
        maintained();
        routePlaces();
        secondPlaceNotSmaller();
        numberAtTheEndOfTheText();
        digitTooMany();
        noDigit();
        anyOrder();
        eightLights();
        sevenRoutes();
        firstFault();
        CHECK.end();
    }

    private static void due(String call, long got, long want) {
        CHECK.due(call, got, want);
    }

    private static int load(String text) {
        EscapeLights x = new EscapeLights();
        Check.write(x, text);
        return x.load();
    }

    private static void fault(String text, int where) {
        due("load() of " + text, load(text), -10 - where);
    }

    private static void loads(String text, int want) {
        due("load() of " + text, load(text), want);
    }

    private static String times(String part, int many) {
        return part.repeat(many);
    }

    private static void bytesOutOfRange() {
        CHECK.sentence("Promise 2: c: the byte, 33 to 126; BAD if c is out of range");
        EscapeLights x = new EscapeLights();
        for (int c : Edge.outside(33, 126)) {
            due("type(" + c + ")", x.type(c), BAD);
        }
        for (int c : new int[] {0, 9, 10, 13, 32, 127, 128, 160, 255, 256 + 'p'}) {
            due("type(" + c + ")", x.type(c), BAD);
        }
        due("told(12)", x.told(12), 0);
        due("load()", x.load(), 0);
    }

    private static void bytesInRange() {
        CHECK.sentence("Promise 2: c: the byte, 33 to 126: each of them");
        EscapeLights x = new EscapeLights();
        for (int c = 33; c <= 126; c++) {
            due("type(" + c + ")", x.type(c), 1);
            due("clear()", x.clear(), 1);
        }
    }

    private static void eightyBytes() {
        CHECK.sentence("Promise 2: Returns how many bytes it has then; FULL if it has 80");
        EscapeLights x = new EscapeLights();
        for (int n = 1; n <= 80; n++) {
            due("type(33) the " + n + "th", x.type(33), n);
            due("told(12)", x.told(12), n);
        }
        due("type(33) the 81st", x.type(33), FULL);
        due("type(126) the 82nd", x.type(126), FULL);
        due("type(32): BAD comes first", x.type(32), BAD);
        due("told(12)", x.told(12), 80);
        x.clear();
        due("type(33) after clear()", x.type(33), 1);
    }

    private static void typeAppends() {
        CHECK.sentence("Promise 2: Appends a byte to the text buffer");
        EscapeLights x = new EscapeLights();
        String text = "r1-2;r30-200;";
        for (int k = 0; k < text.length(); k++) {
            due("type", x.type(text.charAt(k)), k + 1);
        }
        due("load()", x.load(), 200);
        due("routeAt(0, 1)", x.routeAt(0, 1), 2);
        due("routeAt(1, 0)", x.routeAt(1, 0), 30);
        due("routeAt(1, 1)", x.routeAt(1, 1), 200);
        x.type('p');
        due("load() of a byte more", x.load(), -10 - 14);
    }

    private static void clearOfNothing() {
        CHECK.sentence("Promise 3: Returns how many bytes it had: none");
        EscapeLights x = new EscapeLights();
        due("clear()", x.clear(), 0);
        due("clear() again", x.clear(), 0);
        x.type(32);
        due("clear() after a refused type()", x.clear(), 0);
        due("told(13)", x.told(13), 0);
    }

    private static void clearOfAll() {
        CHECK.sentence("Promise 3: Returns how many bytes it had: 80");
        EscapeLights x = new EscapeLights();
        Check.write(x, times("!", 80));
        x.type(33);
        due("clear()", x.clear(), 80);
        due("told(12)", x.told(12), 0);
        due("clear() again", x.clear(), 0);
        due("load() of the empty text", x.load(), 0);
    }

    private static void emptyText() {
        CHECK.sentence("the empty text is a building without lights and routes");
        EscapeLights x = Edge.lightsAt(1, 2, 3);
        x.route(1, 1);
        due("load()", x.load(), 0);
        due("told(0)", x.told(0), 0);
        due("told(2)", x.told(2), 0);
        due("light(0, 0)", x.light(0, 0), -1);
        due("routeAt(0, 0)", x.routeAt(0, 0), -1);
        due("days()", x.days(), 0);
        due("undo()", x.undo(), 4);
        due("told(0)", x.told(0), 3);
        due("told(2)", x.told(2), 1);
    }

    private static void textOf80Bytes() {
        CHECK.sentence("The text buffer has at most 80 bytes: a building of 80");
        String text = times(LIGHT, 8) + "r10-100;";
        due("its bytes", text.length(), 80);
        EscapeLights x = new EscapeLights();
        Check.write(x, text);
        due("load()", x.load(), 108);
        due("routeAt(0, 1)", x.routeAt(0, 1), 100);
        EscapeLights y = new EscapeLights();
        Check.write(y, "r1-2;" + times("p200c3b3l2m;", 6) + "r7");
        y.clear();
        Check.write(y, text + "p");
        due("load() when an 81st byte was refused", y.load(), 108);
    }

    private static void textOf80BytesThatEndsTooEarly() {
        CHECK.sentence("or the length of the text if it ends too early: of 80 bytes");
        fault(times(LIGHT, 8) + "p1c0b0l0", 80);
        fault(times(LIGHT, 8) + "p10c0b0l", 80);
        fault(times(LIGHT, 8) + "r10-1000", 79);
        fault(times(LIGHT, 8) + "r100-100", 80);
        fault(times(LIGHT, 7) + times(ROUTE, 3) + "r2", 80);
        loads(times(LIGHT, 8) + "r100-100;", -10 - 80);
    }

    private static void textOf80BytesWithAFaultAtItsLast() {
        CHECK.sentence("The fault of a text is the index of the first byte that cannot stand there: the last of 80");
        fault(times(LIGHT, 8) + "r10-100!", 79);
        fault(times(LIGHT, 8) + "r10-201", 78);
        fault(times(LIGHT, 8) + "r100-201", 79);
        fault(times(LIGHT, 8) + "r1-100;x", 79);
        fault(times("!", 80), 0);
    }

    private static void textStays() {
        CHECK.sentence("Promise 4: Reads the text buffer, which stays");
        EscapeLights x = new EscapeLights();
        Check.write(x, "p9c0b0l0;r9-9;");
        due("load()", x.load(), 101);
        due("told(12)", x.told(12), 14);
        x.drop(0);
        due("load() again", x.load(), 101);
        due("light(0, 0)", x.light(0, 0), 9);
        x.type('p');
        due("load() with a fault", x.load(), -10 - 15);
        due("told(12)", x.told(12), 15);
        Check.write(x, "p8c0b0l0;");
        due("load()", x.load(), 1);
        due("clear()", x.clear(), 9);
    }

    private static void allElseStays() {
        CHECK.sentence("Promise 4: in place of the present lights and routes; all else stays");
        EscapeLights x = Edge.lightsAt(10);
        x.test(1, true);
        x.test(1, true);
        x.pass(1000);
        x.setNeed(180);
        for (int lamp = 0; lamp <= 2; lamp++) {
            x.setStock(lamp, 99 - lamp);
        }
        Check.write(x, "p1c0b0l0;");
        due("load()", x.load(), 1);
        int[] want = {1, 0, 0, 0, 180, 1000, 99, 98, 97, 0, 1, 1, 9, 8};
        for (int what = 0; what <= 13; what++) {
            due("told(" + what + ")", x.told(what), want[what]);
        }
        x.pass(999);
        due("light(0, 5) at 1999", x.light(0, 5), 1000);
        x.pass(1);
        due("light(0, 5) at 2000", x.light(0, 5), 999);
    }

    private static void loadedLightsAreNew() {
        CHECK.sentence("Promise 4: in place of the present lights: with new batteries and lamps and without results");
        EscapeLights x = Edge.lightsAt(10, 10);
        x.maintain(0, true);
        x.pass(3);
        x.test(3, true);
        Check.write(x, "p10c0b0l0;p10c0b0l0m;");
        due("load()", x.load(), 2);
        for (int i = 0; i < 2; i++) {
            int[] want = {10, 0, 0, 0, i, 1000, 75, 1800, 3000, 75, 1, -9, 0};
            for (int what = 0; what <= 12; what++) {
                due("light(" + i + ", " + what + ")", x.light(i, what), want[what]);
            }
        }
        due("load() again, after a test", x.test(1, true) + x.load(), 3);
        due("light(0, 11)", x.light(0, 11), -9);
    }

    private static void moreAndFewerThanBefore() {
        CHECK.sentence("Promise 4: Returns the number of lights plus 100 times that of routes: more or fewer than before");
        EscapeLights x = Edge.lightsAt(1, 2, 3, 4, 5, 6, 7, 8, 9, 10);
        for (int r = 0; r < 6; r++) {
            x.route(r, 10);
        }
        Check.write(x, "p7c0b0l0;r3-4;");
        due("load() of one each", x.load(), 101);
        due("light(1, 0)", x.light(1, 0), -1);
        due("routeAt(1, 0)", x.routeAt(1, 0), -1);
        Check.write(x, times(LIGHT, 2) + times(ROUTE, 6));
        due("load() of more", x.load(), 602);
        due("light(1, 0)", x.light(1, 0), 1);
        due("light(2, 0)", x.light(2, 0), -1);
        due("routeAt(5, 0)", x.routeAt(5, 0), 1);
        due("add(0, 0, 0, 0)", x.add(0, 0, 0, 0), 2);
        due("route(0, 0)", x.route(0, 0), FULL);
        x.undo();
        x.undo();
        x.undo();
        due("told(0)", x.told(0), 10);
        due("light(9, 0)", x.light(9, 0), 10);
        due("routeAt(5, 0)", x.routeAt(5, 0), 5);
    }

    private static void isAChange() {
        CHECK.sentence("Promise 4: This is a change");
        EscapeLights x = new EscapeLights();
        due("load() of the empty text", x.load(), 0);
        due("told(13)", x.told(13), 1);
        Check.write(x, LIGHT);
        due("told(13) after typing", x.told(13), 1);
        due("load()", x.load(), 1);
        due("load()", x.load(), 1);
        due("told(13)", x.told(13), 3);
    }

    private static void faultChangesNothing() {
        CHECK.sentence("Promise 4: -10 minus the fault, if there is one (then nothing changes)");
        EscapeLights x = Edge.lightsAt(10);
        x.route(3, 4);
        x.test(1, true);
        String[] texts = {"p", times(LIGHT, 8) + "q", times(ROUTE, 7), "r5-4;", LIGHT + "p201"};
        int[] faults = {1, 72, 30, 3, 12};
        for (int k = 0; k < texts.length; k++) {
            Check.write(x, texts[k]);
            due("load() of " + texts[k], x.load(), -10 - faults[k]);
            due("told(0)", x.told(0), 1);
            due("told(2)", x.told(2), 1);
            due("told(13)", x.told(13), 3);
            due("light(0, 0)", x.light(0, 0), 10);
            due("light(0, 11)", x.light(0, 11), 60);
            due("routeAt(0, 0)", x.routeAt(0, 0), 3);
            due("days()", x.days(), 1);
            due("clear()", x.clear(), texts[k].length());
        }
    }

    private static void eachPartEndsWithASemicolon() {
        CHECK.sentence("A building is written as parts, each with ; behind it");
        fault("p1c0b0l0", 8);
        fault("p1c0b0l0m", 9);
        fault("r1-1", 4);
        fault("p1c0b0l0r1-1;", 8);
        fault("r1-1p1c0b0l0;", 4);
        fault(";", 0);
        fault("r1-1;;", 5);
        fault("p1c0b0l0;;", 9);
        fault("p1c0b0l0:", 8);
        loads("p1c0b0l0;r1-1;", 101);
    }

    /** Each beginning of a text of two parts, but for those where a part has just ended. */
    private static void endsTooEarly() {
        CHECK.sentence("or the length of the text if it ends too early");
        String text = "p200c3b3l2m;r100-200;p7c0b0l0;";
        for (int length = 0; length <= text.length(); length++) {
            String beginning = text.substring(0, length);
            if (length == 0 || beginning.endsWith(";")) {
                loads(beginning, new int[] {0, 1, 101, 102}[beginning.replaceAll("[^;]", "").length()]);
            } else if (beginning.endsWith("-1") || beginning.endsWith("-2") || beginning.endsWith("-20")) {
                // 2 and 20 are smaller than 100, and that is found at once
                fault(beginning, length - 1);
            } else {
                fault(beginning, length);
            }
        }
    }

    private static void wrongByteAnywhere() {
        CHECK.sentence("The fault of a text is the index of the first byte that cannot stand there");
        String text = "p200c3b3l2m;r100-200;";
        for (int at = 0; at < text.length(); at++) {
            for (char c : new char[] {'!', '~', '/', ':', 'q'}) {
                String wrong = text.substring(0, at) + c + text.substring(at + 1);
                // a number that is left too small is a fault at its last digit
                boolean small = at == 18 || at == 19;
                fault(wrong, small ? at - 1 : at);
            }
        }
        fault("P1c0b0l0;", 0);
        fault("p1C0b0l0;", 2);
        fault("p1c0B0l0;", 4);
        fault("p1c0b0L0;", 6);
        fault("p1c0b0l0M;", 8);
        fault("R1-1;", 0);
        fault("r1_1;", 2);
    }

    private static void place() {
        CHECK.sentence("A light is p and its place (1 to 3 digits): 0 to 200");
        for (String digits : new String[] {"0", "00", "000", "1", "9", "09", "009", "10", "99", "099", "100", "199", "200"}) {
            EscapeLights x = new EscapeLights();
            Check.write(x, "p" + digits + "c0b0l0;");
            due("load() of p" + digits, x.load(), 1);
            due("light(0, 0)", x.light(0, 0), Integer.parseInt(digits));
        }
        fault("p201c0b0l0;", 3);
        fault("p209c0b0l0;", 3);
        fault("p210c0b0l0;", 3);
        fault("p300c0b0l0;", 3);
        fault("p999c0b0l0;", 3);
        fault("p256c0b0l0;", 3);
        fault("p-1c0b0l0;", 1);
    }

    private static void circuit() {
        CHECK.sentence("then c and its circuit (a digit)");
        for (int n = 0; n <= 9; n++) {
            EscapeLights x = new EscapeLights();
            Check.write(x, "p1c" + n + "b0l0;");
            due("load() of c" + n, x.load(), n <= 3 ? 1 : -13);
            due("light(0, 1)", x.light(0, 1), n <= 3 ? n : BAD);
        }
    }

    private static void battery() {
        CHECK.sentence("b and the class of its battery (a digit)");
        for (int n = 0; n <= 9; n++) {
            EscapeLights x = new EscapeLights();
            Check.write(x, "p1c0b" + n + "l0;");
            due("load() of b" + n, x.load(), n <= 3 ? 1 : -15);
            due("light(0, 2)", x.light(0, 2), n <= 3 ? n : BAD);
        }
    }

    private static void lamp() {
        CHECK.sentence("l and the kind of its lamp (a digit)");
        for (int n = 0; n <= 9; n++) {
            EscapeLights x = new EscapeLights();
            Check.write(x, "p1c0b0l" + n + ";");
            due("load() of l" + n, x.load(), n <= 2 ? 1 : -17);
            due("light(0, 3)", x.light(0, 3), n <= 2 ? n : BAD);
            due("light(0, 8)", x.light(0, 8), n <= 2 ? 3000 * (n + 1) : BAD);
        }
    }

    private static void maintained() {
        CHECK.sentence("and perhaps m, if it is maintained");
        EscapeLights x = new EscapeLights();
        Check.write(x, "p1c0b0l0m;p1c0b0l0;");
        due("load()", x.load(), 2);
        due("light(0, 4)", x.light(0, 4), 1);
        due("light(1, 4)", x.light(1, 4), 0);
        fault("p1c0b0l0mm;", 9);
        fault("p1c0b0ml0;", 6);
        fault("p1c0b0m;", 6);
        fault("m;", 0);
        fault("r1-1m;", 4);
    }

    private static void routePlaces() {
        CHECK.sentence("A route is r and two places (1 to 3 digits each) with - between them");
        String[] texts = {"r0-0;", "r000-000;", "r0-200;", "r200-200;", "r00-001;", "r7-007;", "r99-100;", "r199-200;"};
        int[] from = {0, 0, 0, 200, 0, 7, 99, 199};
        int[] to = {0, 0, 200, 200, 1, 7, 100, 200};
        for (int k = 0; k < texts.length; k++) {
            EscapeLights x = new EscapeLights();
            Check.write(x, texts[k]);
            due("load() of " + texts[k], x.load(), 100);
            due("routeAt(0, 0)", x.routeAt(0, 0), from[k]);
            due("routeAt(0, 1)", x.routeAt(0, 1), to[k]);
        }
        fault("r201-201;", 3);
        fault("r201", 3);
        fault("r0-201;", 5);
        fault("r200-201;", 7);
        fault("r0-999;", 5);
        fault("r0--1;", 3);
        fault("r-1-1;", 1);
        fault("r1;", 2);
        fault("r1-;", 3);
        fault("r1-1-1;", 4);
    }

    private static void secondPlaceNotSmaller() {
        CHECK.sentence("the second one of which is not smaller");
        loads("r5-5;", 100);
        fault("r5-4;", 3);
        loads("r100-100;", 100);
        fault("r100-99;", 6);
        fault("r100-099;", 7);
        fault("r200-199;", 7);
        fault("r1-0;", 3);
        fault("r1-00;", 4);
        loads("r1-01;", 100);
        fault("r10-9;", 4);
        loads("r9-10;", 100);
    }

    private static void numberAtTheEndOfTheText() {
        CHECK.sentence("found when it has been read (also where the text ends behind it, though a further digit could "
            + "make it right)");
        fault("r5-1", 3);
        fault("r5-5", 4);
        fault("r50-4", 4);
        fault("r50-49", 5);
        fault("r50-50", 6);
        fault("r100-1", 5);
        fault("r100-10", 6);
        fault("r100-100", 8);
        fault("r1-0", 3);
        fault("p201", 3);
        fault("p200", 4);
        fault("p20", 3);
        fault("p1c4", 3);
        fault("p1c3", 4);
        fault("p1c0b4", 5);
        fault("p1c0b3", 6);
        fault("p1c0b0l3", 7);
        fault("p1c0b0l2", 8);
    }

    private static void digitTooMany() {
        CHECK.sentence("a digit too many is the fault itself");
        fault("p0000c0b0l0;", 4);
        fault("p1000", 4);
        fault("p2000", 4);
        fault("p2012", 4);
        fault("p9999c0b0l0;", 4);
        fault("p00000", 4);
        fault("p1c00b0l0;", 4);
        fault("p1c0b00l0;", 6);
        fault("p1c0b0l00;", 8);
        fault("p1c0b0l0m0;", 9);
        fault("r0000-1;", 4);
        fault("r2019-1;", 4);
        fault("r1-0001;", 6);
        fault("r1-2000;", 6);
        fault("r5-0040;", 6);
    }

    private static void noDigit() {
        CHECK.sentence("(1 to 3 digits), (a digit): none");
        fault("pc0b0l0;", 1);
        fault("p1cb0l0;", 3);
        fault("p1c0bl0;", 5);
        fault("p1c0b0l;", 7);
        fault("p1c0b0lm;", 7);
        fault("r-1;", 1);
        fault("r1-;", 3);
        fault("p+1c0b0l0;", 1);
    }

    private static void anyOrder() {
        CHECK.sentence("Parts can be in any order; lights and routes are numbered in theirs");
        EscapeLights x = new EscapeLights();
        Check.write(x, "r1-2;p9c0b0l0;r3-4;p8c0b0l0;p7c0b0l0;r1-2;");
        due("load()", x.load(), 303);
        for (int i = 0; i < 3; i++) {
            due("light(" + i + ", 0)", x.light(i, 0), 9 - i);
        }
        due("routeAt(0, 0)", x.routeAt(0, 0), 1);
        due("routeAt(1, 0)", x.routeAt(1, 0), 3);
        due("routeAt(2, 0)", x.routeAt(2, 0), 1);
        fault("p1b0c0l0;", 2);
        fault("p1c0l0b0;", 4);
    }

    /** More than 8 lights have no room in 80 bytes, so that an 11th one cannot be written. */
    private static void eightLights() {
        CHECK.sentence("an 11th light is a fault at its p: as many as 80 bytes can hold are none");
        for (int many = 1; many <= 8; many++) {
            loads(times(LIGHT, many), many);
        }
        fault(times(LIGHT, 8) + "p", 73);
        EscapeLights x = Edge.lightsAt(1, 2, 3, 4, 5, 6, 7, 8, 9, 10);
        Check.write(x, times(LIGHT, 8));
        due("load() in place of 10 lights", x.load(), 8);
    }

    private static void sevenRoutes() {
        CHECK.sentence("an 11th light and a 7th route are faults at their p and r");
        loads(times(ROUTE, 6), 600);
        fault(times(ROUTE, 7), 30);
        fault(times(ROUTE, 6) + "r", 30);
        fault(times(ROUTE, 6) + "r201", 30);
        fault(times(ROUTE, 6) + LIGHT + ROUTE, 39);
        fault(LIGHT + times(ROUTE, 7), 39);
        loads(times(ROUTE, 6) + LIGHT, 601);
        fault(times(ROUTE, 6) + "q", 30);
        EscapeLights x = new EscapeLights();
        for (int r = 0; r < 6; r++) {
            x.route(0, 0);
        }
        Check.write(x, times(ROUTE, 6));
        due("load() in place of 6 routes", x.load(), 600);
        x.type('r');
        due("load() of a 7th", x.load(), -40);
    }

    private static void firstFault() {
        CHECK.sentence("The fault of a text is the index of the first byte that cannot stand there: of several");
        fault("p201c4b4l3", 3);
        fault("p1c4b4l3", 3);
        fault("p1c0b4l3", 5);
        fault("p1c0b0l3x", 7);
        fault("r5-4;r4-3;", 3);
        fault("xr5-4;", 0);
        fault(LIGHT + "x" + LIGHT + "y", 9);
    }
}
