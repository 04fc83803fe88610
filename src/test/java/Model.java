import java.util.ArrayDeque;
import java.util.ArrayList;
import java.util.Deque;
import java.util.HashMap;
import java.util.List;
import java.util.Map;
import java.util.regex.Matcher;
import java.util.regex.Pattern;

/** The document once more, as slow and as near to its words as can be: hour by hour, place by place. */
final class Model {
    private static final int BAD = -1, STATE = -2, FULL = -3, NONE = -9;
    private static final int[] RATED = {60, 90, 120, 180};
    private static final int[] WEAR = {5, 4, 3, 2};
    private static final int[] REACH = {4, 6, 9};
    private static final int[] LIFE = {3000, 6000, 9000};
    /** The form of a text, whatever its numbers are. */
    private static final Pattern TEXT =
        Pattern.compile("(p\\d{1,3}c\\db\\dl\\dm?;|r\\d{1,3}-\\d{1,3};)*");
    private static final Pattern NUMBER = Pattern.compile("([pcblr-])(\\d+)");
    private static final Pattern PART =
        Pattern.compile("p(\\d+)c(\\d)b(\\d)l(\\d)(m?);|r(\\d+)-(\\d+);");

    private static final class Lamp {
        final int place;
        final int circuit;
        final int battery;
        int kind;
        int lit;
        int health = 1000;
        int charge;
        boolean maintained;
        int result = NONE;

        Lamp(int place, int circuit, int battery, int kind) {
            this.place = place;
            this.circuit = circuit;
            this.battery = battery;
            this.kind = kind;
            charge = 24 * capacity();
        }

        Lamp copy() {
            Lamp other = new Lamp(place, circuit, battery, kind);
            other.lit = lit;
            other.health = health;
            other.charge = charge;
            other.maintained = maintained;
            other.result = result;
            return other;
        }

        int capacity() {
            return 5 * RATED[battery] * health / 4000;
        }

        int rest() {
            return Math.max(LIFE[kind] - lit, 0);
        }

        int endurance() {
            return Math.min(charge / 24, rest());
        }

        boolean reaches(int where) {
            return where >= place - REACH[kind] && where <= place + REACH[kind];
        }

        void wear(int by) {
            health = Math.max(health - by, 0);
            if (charge > 24 * capacity()) {
                charge = 24 * capacity();
            }
        }
    }

    private static final class State {
        final List<Lamp> lamps = new ArrayList<>();
        final List<int[]> routes = new ArrayList<>();
        int need = 60;
        int hours;
        int[] stock = new int[3];
        int passed;
        int failed;

        State copy() {
            State other = new State();
            for (Lamp lamp : lamps) {
                other.lamps.add(lamp.copy());
            }
            other.routes.addAll(routes);
            other.need = need;
            other.hours = hours;
            other.stock = stock.clone();
            other.passed = passed;
            other.failed = failed;
            return other;
        }

        boolean ready(int i) {
            return lamps.get(i).endurance() >= need;
        }

        boolean covered(int[] route, int set) {
            for (int place = route[0]; place <= route[1]; place++) {
                boolean reached = false;
                for (int i = 0; i < lamps.size(); i++) {
                    reached |= (set & 1 << i) != 0 && ready(i) && lamps.get(i).reaches(place);
                }
                if (!reached) {
                    return false;
                }
            }
            return true;
        }

        boolean safe(int[] route) {
            return covered(route, -1);
        }

        boolean allowed(int set) {
            for (int[] route : routes) {
                if (safe(route) && !covered(route, ~set)) {
                    return false;
                }
            }
            return true;
        }

        int lasts(int[] route, int set) {
            int least = 1 << 20;
            for (int place = route[0]; place <= route[1]; place++) {
                int greatest = 0;
                for (int i = 0; i < lamps.size(); i++) {
                    if ((set & 1 << i) != 0 && lamps.get(i).reaches(place)) {
                        greatest = Math.max(greatest, lamps.get(i).endurance());
                    }
                }
                least = Math.min(least, greatest);
            }
            return least;
        }

        void hour() {
            for (Lamp lamp : lamps) {
                if (lamp.maintained && lamp.rest() > 0) {
                    lamp.lit += 60;
                }
                lamp.charge = Math.min(lamp.charge + lamp.capacity(), 24 * lamp.capacity());
            }
            hours++;
            if (hours % 1000 == 0) {
                for (Lamp lamp : lamps) {
                    lamp.wear(1);
                }
            }
        }

        int test(int set) {
            int passes = 0;
            for (int i = 0; i < lamps.size(); i++) {
                if ((set & 1 << i) != 0) {
                    Lamp lamp = lamps.get(i);
                    int burns = Math.min(lamp.endurance(), RATED[lamp.battery]);
                    lamp.lit += burns;
                    lamp.charge -= 24 * burns;
                    lamp.wear(WEAR[lamp.battery]);
                    lamp.result = burns;
                    if (burns == RATED[lamp.battery]) {
                        passes++;
                        passed++;
                    } else {
                        failed++;
                    }
                }
            }
            return passes;
        }

        /** The best plan, null if there is none. */
        List<Integer> plan() {
            Map<Integer, Boolean> allowed = new HashMap<>();
            for (int set = 0; set < 1 << lamps.size(); set++) {
                allowed.put(set, allowed(set));
            }
            int all = (1 << lamps.size()) - 1;
            for (int days = 0; days <= lamps.size(); days++) {
                List<Integer> plan = new ArrayList<>();
                if (divide(all, days, allowed, plan)) {
                    return plan;
                }
            }
            return null;
        }

        /** Divides lights into just so many days, the smallest first set before greater ones. */
        private static boolean divide(int left, int days, Map<Integer, Boolean> allowed, List<Integer> plan) {
            if (left == 0 || days == 0) {
                return left == 0 && days == 0;
            }
            for (int set = 1; set <= left; set++) {
                boolean inside = (set & ~left) == 0 && (set & left & -left) != 0;
                if (inside && allowed.get(set)) {
                    plan.add(set);
                    if (divide(left & ~set, days - 1, allowed, plan)) {
                        return true;
                    }
                    plan.remove(plan.size() - 1);
                }
            }
            return false;
        }
    }

    private State now = new State();
    private final Deque<State> remembered = new ArrayDeque<>();
    private final StringBuilder text = new StringBuilder();

    private void remember() {
        remembered.addLast(now.copy());
        if (remembered.size() > 8) {
            remembered.removeFirst();
        }
    }

    private boolean noLight(int i) {
        return i < 0 || i >= now.lamps.size();
    }

    private boolean noRoute(int r) {
        return r < 0 || r >= now.routes.size();
    }

    private boolean noSet(int set) {
        return set < 0 || set >= 1 << now.lamps.size();
    }

    private static boolean out(int value, int least, int most) {
        return value < least || value > most;
    }

    int type(int c) {
        if (out(c, 33, 126)) {
            return BAD;
        }
        if (text.length() == 80) {
            return FULL;
        }
        text.append((char) c);
        return text.length();
    }

    int clear() {
        int before = text.length();
        text.setLength(0);
        return before;
    }

    /** The length of the longest beginning of the text that some text of the right form begins with. */
    private int rightBeginning() {
        for (int k = 0; k < text.length(); k++) {
            Matcher matcher = TEXT.matcher(text.substring(0, k + 1));
            if (!matcher.matches() && !matcher.hitEnd()) {
                return k;
            }
        }
        return text.length();
    }

    /** The first number that is not right, looked at only if no digit too many stands behind it. */
    private int faultOfNumbers(int end) {
        Matcher number = NUMBER.matcher(text.substring(0, end));
        int before = 0;
        while (number.find()) {
            int value = Integer.parseInt(number.group(2));
            char sign = number.group(1).charAt(0);
            int most = sign == 'l' ? 2 : sign == 'c' || sign == 'b' ? 3 : 200;
            int behind = number.end();
            boolean goesOn = behind < text.length() && Character.isDigit(text.charAt(behind));
            if (!goesOn && out(value, sign == '-' ? before : 0, most)) {
                return behind - 1;
            }
            before = value;
        }
        return 81;
    }

    private int fault() {
        int fault = rightBeginning();
        boolean whole = fault == text.length() && TEXT.matcher(text).matches();
        int first = Math.min(whole ? 81 : fault, faultOfNumbers(fault));
        int routes = 0;
        int lights = 0;
        for (int k = 0; k < fault; k++) {
            if (text.charAt(k) == 'r' && ++routes == 7 || text.charAt(k) == 'p' && ++lights == 11) {
                first = Math.min(first, k);
            }
        }
        return first;
    }

    int load() {
        int fault = fault();
        if (fault <= 80) {
            return -10 - fault;
        }
        remember();
        now.lamps.clear();
        now.routes.clear();
        Matcher part = PART.matcher(text);
        while (part.find()) {
            if (part.group(1) != null) {
                Lamp lamp = new Lamp(Integer.parseInt(part.group(1)), Integer.parseInt(part.group(2)),
                    Integer.parseInt(part.group(3)), Integer.parseInt(part.group(4)));
                lamp.maintained = !part.group(5).isEmpty();
                now.lamps.add(lamp);
            } else {
                now.routes.add(new int[] {Integer.parseInt(part.group(6)), Integer.parseInt(part.group(7))});
            }
        }
        return now.lamps.size() + 100 * now.routes.size();
    }

    int add(int place, int circuit, int battery, int lamp) {
        if (out(place, 0, 200) || out(circuit, 0, 3) || out(battery, 0, 3) || out(lamp, 0, 2)) {
            return BAD;
        }
        if (now.lamps.size() == 10) {
            return FULL;
        }
        remember();
        now.lamps.add(new Lamp(place, circuit, battery, lamp));
        return now.lamps.size() - 1;
    }

    int drop(int i) {
        if (noLight(i)) {
            return BAD;
        }
        remember();
        now.lamps.remove(i);
        return now.lamps.size();
    }

    int maintain(int i, boolean on) {
        if (noLight(i)) {
            return BAD;
        }
        remember();
        int before = now.lamps.get(i).maintained ? 1 : 0;
        now.lamps.get(i).maintained = on;
        return before;
    }

    int route(int from, int to) {
        if (out(from, 0, 200) || out(to, from, 200)) {
            return BAD;
        }
        if (now.routes.size() == 6) {
            return FULL;
        }
        remember();
        now.routes.add(new int[] {from, to});
        return now.routes.size() - 1;
    }

    int dropRoute(int r) {
        if (noRoute(r)) {
            return BAD;
        }
        remember();
        now.routes.remove(r);
        return now.routes.size();
    }

    int setNeed(int minutes) {
        if (out(minutes, 1, 180)) {
            return BAD;
        }
        remember();
        int before = now.need;
        now.need = minutes;
        return before;
    }

    int setStock(int lamp, int many) {
        if (out(lamp, 0, 2) || out(many, 0, 99)) {
            return BAD;
        }
        remember();
        int before = now.stock[lamp];
        now.stock[lamp] = many;
        return before;
    }

    int light(int i, int what) {
        if (noLight(i) || out(what, 0, 12)) {
            return BAD;
        }
        Lamp lamp = now.lamps.get(i);
        int[] values = {lamp.place, lamp.circuit, lamp.battery, lamp.kind, lamp.maintained ? 1 : 0, lamp.health,
            lamp.capacity(), lamp.charge, lamp.rest(), lamp.endurance(), now.ready(i) ? 1 : 0, lamp.result, NONE};
        if (what == 12) {
            List<Integer> plan = now.plan();
            for (int day = 0; plan != null && day < plan.size(); day++) {
                if ((plan.get(day) & 1 << i) != 0) {
                    return day;
                }
            }
        }
        return values[what];
    }

    int swap(int i, int lamp) {
        if (noLight(i) || out(lamp, 0, 2)) {
            return BAD;
        }
        if (now.stock[lamp] == 0) {
            return STATE;
        }
        remember();
        now.lamps.get(i).kind = lamp;
        now.lamps.get(i).lit = 0;
        return --now.stock[lamp];
    }

    int swapAll(int rest) {
        if (out(rest, 1, 9000)) {
            return BAD;
        }
        remember();
        int many = 0;
        for (Lamp lamp : now.lamps) {
            if (lamp.rest() < rest) {
                int kind = lamp.kind;
                if (now.stock[kind] == 0) {
                    kind = now.stock[2] > 0 ? 2 : now.stock[1] > 0 ? 1 : 0;
                }
                if (now.stock[kind] > 0 && REACH[kind] >= REACH[lamp.kind]) {
                    now.stock[kind]--;
                    lamp.kind = kind;
                    lamp.lit = 0;
                    many++;
                }
            }
        }
        return many;
    }

    int renew(int i) {
        if (noLight(i)) {
            return BAD;
        }
        remember();
        int before = now.lamps.get(i).health;
        now.lamps.get(i).health = 1000;
        now.lamps.get(i).charge = 0;
        return before;
    }

    int pass(int hours) {
        if (out(hours, 1, 2000)) {
            return BAD;
        }
        if (now.hours + hours > 100000) {
            return FULL;
        }
        remember();
        for (int k = 0; k < hours; k++) {
            now.hour();
        }
        return told(1);
    }

    int test(int set, boolean force) {
        if (set == 0 || noSet(set)) {
            return BAD;
        }
        if (!force && !now.allowed(set)) {
            return STATE;
        }
        remember();
        return now.test(set);
    }

    int carryOut() {
        if (now.lamps.isEmpty()) {
            return BAD;
        }
        List<Integer> plan = now.plan();
        if (plan == null) {
            return STATE;
        }
        if (now.hours + 24 * plan.size() > 100000) {
            return FULL;
        }
        remember();
        int passes = 0;
        for (int set : plan) {
            passes += now.test(set);
            for (int k = 0; k < 24; k++) {
                now.hour();
            }
        }
        return now.lamps.size() - passes;
    }

    private int withoutCircuit(int[] route, int circuit) {
        int set = 0;
        for (int i = 0; i < now.lamps.size(); i++) {
            set |= now.lamps.get(i).circuit == circuit ? 0 : 1 << i;
        }
        return now.lasts(route, set);
    }

    int routeAt(int r, int what) {
        if (noRoute(r) || out(what, 0, 6)) {
            return BAD;
        }
        int[] route = now.routes.get(r);
        int dark = 0;
        for (int place = route[0]; place <= route[1]; place++) {
            dark += reaching(place, true) == 0 ? 1 : 0;
        }
        int least = 1 << 20;
        int circuit = 0;
        for (int c = 3; c >= 0; c--) {
            if (withoutCircuit(route, c) <= least) {
                least = withoutCircuit(route, c);
                circuit = c;
            }
        }
        int[] values = {route[0], route[1], dark, now.safe(route) ? 1 : 0, now.lasts(route, -1), least, circuit};
        return values[what];
    }

    int lasts(int r, int set) {
        return noRoute(r) || noSet(set) ? BAD : now.lasts(now.routes.get(r), set);
    }

    int reaching(int place, boolean ready) {
        if (out(place, 0, 200)) {
            return BAD;
        }
        int many = 0;
        for (int i = 0; i < now.lamps.size(); i++) {
            many += now.lamps.get(i).reaches(place) && (now.ready(i) || !ready) ? 1 : 0;
        }
        return many;
    }

    int allowed(int set) {
        return noSet(set) ? BAD : now.allowed(set) ? 1 : 0;
    }

    int days() {
        List<Integer> plan = now.plan();
        return plan == null ? NONE : plan.size();
    }

    int day(int day) {
        if (day < 0) {
            return BAD;
        }
        List<Integer> plan = now.plan();
        return plan == null || day >= plan.size() ? NONE : plan.get(day);
    }

    int ifLamp(int i, int lamp) {
        if (noLight(i) || out(lamp, 0, 2)) {
            return BAD;
        }
        State other = now.copy();
        other.lamps.get(i).kind = lamp;
        other.lamps.get(i).lit = 0;
        List<Integer> plan = other.plan();
        return plan == null ? NONE : plan.size();
    }

    int bestSwap(int lamp) {
        if (out(lamp, 0, 2)) {
            return BAD;
        }
        int best = NONE;
        int least = 1000;
        for (int i = 0; i < now.lamps.size(); i++) {
            int days = ifLamp(i, lamp) == NONE ? 999 : ifLamp(i, lamp);
            if (days < least) {
                least = days;
                best = i;
            }
        }
        return best;
    }

    int told(int what) {
        if (out(what, 0, 13)) {
            return BAD;
        }
        int ready = 0;
        int burntOut = 0;
        int safe = 0;
        for (int i = 0; i < now.lamps.size(); i++) {
            ready += now.ready(i) ? 1 : 0;
            burntOut += now.lamps.get(i).rest() == 0 ? 1 : 0;
        }
        for (int[] route : now.routes) {
            safe += now.safe(route) ? 1 : 0;
        }
        int[] values = {now.lamps.size(), ready, now.routes.size(), safe, now.need, now.hours, now.stock[0],
            now.stock[1], now.stock[2], burntOut, now.passed, now.failed, text.length(), remembered.size()};
        return values[what];
    }

    int undo() {
        if (remembered.isEmpty()) {
            return STATE;
        }
        now = remembered.removeLast();
        return remembered.size();
    }

    long digest() {
        List<Long> values = new ArrayList<>();
        for (int what = 0; what <= 13; what++) {
            values.add((long) told(what));
        }
        List<Integer> plan = now.plan();
        for (int i = 0; i < now.lamps.size(); i++) {
            for (int what = 0; what < 12; what++) {
                values.add((long) light(i, what));
            }
            long day = NONE;
            for (int k = 0; plan != null && k < plan.size(); k++) {
                day = (plan.get(k) & 1 << i) != 0 ? k : day;
            }
            values.add(day);
        }
        for (int r = 0; r < now.routes.size(); r++) {
            for (int what = 0; what <= 6; what++) {
                values.add((long) routeAt(r, what));
            }
        }
        values.add(plan == null ? NONE : (long) plan.size());
        if (plan != null) {
            for (int set : plan) {
                values.add((long) set);
            }
        }
        for (int place = 0; place <= 200; place += 5) {
            values.add((long) reaching(place, false));
            values.add((long) reaching(place, true));
        }
        long h = 18752;
        for (long v : values) {
            h = 31 * h + v;
        }
        return h;
    }
}
