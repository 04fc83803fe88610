/** Emergency lights along escape routes: their hours, their tests, and the plans of these. */
public final class EscapeLights {
    public static final int BAD = -1, STATE = -2, FULL = -3, NONE = -9;

    private static final int MOST_LIGHTS = 10;
    private static final int MOST_ROUTES = 6;
    private static final int MOST_BYTES = 80;
    private static final int MOST_STATES = 8;
    private static final int MOST_HOURS = 100000;
    private static final int MOST_IN_STOCK = 99;
    private static final int LAST_PLACE = 200;
    private static final int LAST_CIRCUIT = 3;
    private static final int LAST_BATTERY = 3;
    private static final int LAST_LAMP = 2;
    private static final int FULL_HEALTH = 1000;
    private static final int HOURS_OF_A_CHARGE = 24;
    private static final int HOURS_OF_A_DAY = 24;
    private static final int HOURS_OF_AGEING = 1000;
    private static final int EVERY_LIGHT = (1 << MOST_LIGHTS) - 1;
    private static final int NO_FAULT = -1;

    private final Text text = new Text();
    private final Building now = new Building();
    private final Building trial = new Building();
    private final History history = new History();
    private final Reach reach = new Reach();
    private final Planner planner = new Planner();

    public EscapeLights() {
    }

    // ---- the building

    public int type(int c) {
        if (c < 33 || c > 126) {
            return BAD;
        }
        return text.append(c) ? text.length : FULL;
    }

    public int clear() {
        int before = text.length;
        text.length = 0;
        return before;
    }

    public int load() {
        int fault = text.readInto(trial);
        if (fault != NO_FAULT) {
            return -10 - fault;
        }
        remember();
        now.copyLayout(trial);
        return now.lightCount + 100 * now.routeCount;
    }

    public int add(int place, int circuit, int battery, int lamp) {
        if (!isPlace(place) || circuit < 0 || circuit > LAST_CIRCUIT
                || battery < 0 || battery > LAST_BATTERY || !isLamp(lamp)) {
            return BAD;
        }
        if (now.lightCount >= MOST_LIGHTS) {
            return FULL;
        }
        remember();
        Light light = now.grow();
        if (light != null) {
            light.begin(place, circuit, battery, lamp, false);
        }
        return now.lightCount - 1;
    }

    public int drop(int i) {
        if (now.find(i) == null) {
            return BAD;
        }
        remember();
        now.removeLight(i);
        return now.lightCount;
    }

    public int maintain(int i, boolean on) {
        Light light = now.find(i);
        if (light == null) {
            return BAD;
        }
        remember();
        int before = light.maintained ? 1 : 0;
        light.maintained = on;
        return before;
    }

    public int route(int from, int to) {
        if (!isPlace(from) || !isPlace(to) || to < from) {
            return BAD;
        }
        if (now.routeCount >= MOST_ROUTES) {
            return FULL;
        }
        remember();
        now.appendRoute(from, to);
        return now.routeCount - 1;
    }

    public int dropRoute(int r) {
        if (!now.hasRoute(r)) {
            return BAD;
        }
        remember();
        now.removeRoute(r);
        return now.routeCount;
    }

    public int setNeed(int minutes) {
        if (minutes < 1 || minutes > 180) {
            return BAD;
        }
        remember();
        int before = now.need;
        now.need = minutes;
        return before;
    }

    public int setStock(int lamp, int many) {
        if (!isLamp(lamp) || many < 0 || many > MOST_IN_STOCK) {
            return BAD;
        }
        remember();
        int before = now.stockOf(lamp);
        now.changeStock(lamp, many - before);
        return before;
    }

    public int light(int i, int what) {
        Light light = now.find(i);
        if (light == null || what < 0 || what > 12) {
            return BAD;
        }
        if (what == 12) {
            planner.follow(now, reach);
            return planner.dayOf(i);
        }
        return light.property(what, now.need);
    }

    // ---- what happens

    public int swap(int i, int lamp) {
        Light light = now.find(i);
        if (light == null || !isLamp(lamp)) {
            return BAD;
        }
        if (now.stockOf(lamp) == 0) {
            return STATE;
        }
        remember();
        light.putLamp(lamp);
        now.changeStock(lamp, -1);
        return now.stockOf(lamp);
    }

    public int swapAll(int rest) {
        if (rest < 1 || rest > 9000) {
            return BAD;
        }
        remember();
        return now.putLamps(rest);
    }

    public int renew(int i) {
        Light light = now.find(i);
        if (light == null) {
            return BAD;
        }
        remember();
        int before = light.health;
        light.health = FULL_HEALTH;
        light.charge = 0;
        return before;
    }

    public int pass(int hours) {
        if (hours < 1 || hours > 2000) {
            return BAD;
        }
        if (now.hours + hours > MOST_HOURS) {
            return FULL;
        }
        remember();
        now.letHoursPass(hours);
        return now.countReady();
    }

    public int test(int set, boolean force) {
        if (set == 0 || !now.holds(set)) {
            return BAD;
        }
        if (!force && allowed(set) == 0) {
            return STATE;
        }
        remember();
        int before = now.passed;
        now.burn(set);
        return now.passed - before;
    }

    public int carryOut() {
        if (now.lightCount == 0) {
            return BAD;
        }
        planner.follow(now, reach);
        int days = planner.dayCount;
        if (days == NONE) {
            return STATE;
        }
        if (now.hours + HOURS_OF_A_DAY * days > MOST_HOURS) {
            return FULL;
        }
        remember();
        int before = now.failed;
        for (int day = 0; day < days; day++) {
            now.burn(planner.setOn(day));
            now.letHoursPass(HOURS_OF_A_DAY);
        }
        return now.failed - before;
    }

    // ---- routes

    public int routeAt(int r, int what) {
        if (!now.hasRoute(r) || what < 0 || what > 6) {
            return BAD;
        }
        switch (what) {
            case 0: return now.firstPlace(r);
            case 1: return now.lastPlace(r);
            case 2: return darkPlaces(r);
            case 3: return darkPlaces(r) == 0 ? 1 : 0;
            case 4: return reach.minutes(now, r, EVERY_LIGHT);
            case 5: return reach.minutes(now, r, now.withoutCircuit(worstCircuit(r)));
            default: return worstCircuit(r);
        }
    }

    public int lasts(int r, int set) {
        if (!now.hasRoute(r) || !now.holds(set)) {
            return BAD;
        }
        return reach.minutes(now, r, set);
    }

    public int reaching(int place, boolean ready) {
        return isPlace(place) ? now.countReaching(place, ready) : BAD;
    }

    // ---- plans

    public int allowed(int set) {
        if (!now.holds(set)) {
            return BAD;
        }
        reach.look(now);
        for (int r = 0; r < now.routeCount; r++) {
            int from = now.firstPlace(r);
            int to = now.lastPlace(r);
            if (reach.dark(from, to, EVERY_LIGHT) == 0 && reach.dark(from, to, ~set) > 0) {
                return 0;
            }
        }
        return 1;
    }

    public int days() {
        planner.follow(now, reach);
        return planner.dayCount;
    }

    public int day(int day) {
        if (day < 0) {
            return BAD;
        }
        planner.follow(now, reach);
        return planner.setOn(day);
    }

    public int ifLamp(int i, int lamp) {
        if (now.find(i) == null || !isLamp(lamp)) {
            return BAD;
        }
        return daysWithLamp(i, lamp);
    }

    public int bestSwap(int lamp) {
        if (!isLamp(lamp)) {
            return BAD;
        }
        int best = NONE;
        int least = 0;
        for (int i = 0; i < now.lightCount; i++) {
            int days = daysWithLamp(i, lamp);
            // no plan counts as more days than any plan can have
            int weight = days == NONE ? MOST_LIGHTS + 1 : days;
            if (best == NONE || weight < least) {
                best = i;
                least = weight;
            }
        }
        return best;
    }

    // ---- the whole

    public int told(int what) {
        switch (what) {
            case 0: return now.lightCount;
            case 1: return now.countReady();
            case 2: return now.routeCount;
            case 3: return countSafe();
            case 4: return now.need;
            case 5: return now.hours;
            case 6: return now.stockOf(0);
            case 7: return now.stockOf(1);
            case 8: return now.stockOf(2);
            case 9: return now.countBurntOut();
            case 10: return now.passed;
            case 11: return now.failed;
            case 12: return text.length;
            case 13: return history.many;
            default: return BAD;
        }
    }

    public int undo() {
        if (history.many == 0) {
            return STATE;
        }
        history.restore(now);
        planner.forget();
        return history.many;
    }

    public long digest() {
        long h = 18752;
        for (int what = 0; what <= 13; what++) {
            h = 31 * h + told(what);
        }
        for (int i = 0; i < now.lightCount; i++) {
            for (int what = 0; what <= 12; what++) {
                h = 31 * h + light(i, what);
            }
        }
        for (int r = 0; r < now.routeCount; r++) {
            for (int what = 0; what <= 6; what++) {
                h = 31 * h + routeAt(r, what);
            }
        }
        int days = days();
        h = 31 * h + days;
        for (int day = 0; day < days; day++) {
            h = 31 * h + day(day);
        }
        for (int place = 0; place <= LAST_PLACE; place += 5) {
            h = 31 * h + reaching(place, false);
            h = 31 * h + reaching(place, true);
        }
        return h;
    }

    // ---- what the calls share

    private static boolean isPlace(int place) {
        return place >= 0 && place <= LAST_PLACE;
    }

    private static boolean isLamp(int lamp) {
        return lamp >= 0 && lamp <= LAST_LAMP;
    }

    /** To be called by each change when nothing can refuse it any more, and before it. */
    private void remember() {
        history.keep(now);
        planner.forget();
    }

    private int darkPlaces(int r) {
        reach.look(now);
        return reach.dark(now.firstPlace(r), now.lastPlace(r), EVERY_LIGHT);
    }

    private int countSafe() {
        int many = 0;
        for (int r = 0; r < now.routeCount; r++) {
            if (darkPlaces(r) == 0) {
                many++;
            }
        }
        return many;
    }

    /** The first one of the circuits without which a route lasts the shortest. */
    private int worstCircuit(int r) {
        int worst = 0;
        int least = reach.minutes(now, r, now.withoutCircuit(0));
        for (int circuit = 1; circuit <= LAST_CIRCUIT; circuit++) {
            int minutes = reach.minutes(now, r, now.withoutCircuit(circuit));
            if (minutes < least) {
                worst = circuit;
                least = minutes;
            }
        }
        return worst;
    }

    private int daysWithLamp(int i, int lamp) {
        trial.copyFrom(now);
        Light light = trial.find(i);
        if (light == null) {
            return NONE;
        }
        light.putLamp(lamp);
        return planner.fewestDays(trial, reach);
    }

    /** A light with its battery and its lamp. */
    private static final class Light {
        int place;
        int circuit;
        int battery;
        int lamp;
        boolean maintained;
        int health;
        int charge;
        int rest;
        int result;

        void begin(int place, int circuit, int battery, int lamp, boolean maintained) {
            this.place = place;
            this.circuit = circuit;
            this.battery = battery;
            this.maintained = maintained;
            health = FULL_HEALTH;
            charge = fullCharge();
            result = NONE;
            putLamp(lamp);
        }

        void copyFrom(Light other) {
            place = other.place;
            circuit = other.circuit;
            battery = other.battery;
            lamp = other.lamp;
            maintained = other.maintained;
            health = other.health;
            charge = other.charge;
            rest = other.rest;
            result = other.result;
        }

        void putLamp(int kind) {
            lamp = kind;
            rest = life();
        }

        int ratedTime() {
            switch (battery) {
                case 0: return 60;
                case 1: return 90;
                case 2: return 120;
                default: return 180;
            }
        }

        int wear() {
            switch (battery) {
                case 0: return 5;
                case 1: return 4;
                case 2: return 3;
                default: return 2;
            }
        }

        int life() {
            switch (lamp) {
                case 0: return 3000;
                case 1: return 6000;
                default: return 9000;
            }
        }

        int width() {
            return widthOf(lamp);
        }

        /** How far a lamp of some kind reaches. */
        static int widthOf(int lamp) {
            switch (lamp) {
                case 0: return 4;
                case 1: return 6;
                default: return 9;
            }
        }

        int capacity() {
            return 5 * ratedTime() * health / 4000;
        }

        int fullCharge() {
            return HOURS_OF_A_CHARGE * capacity();
        }

        int endurance() {
            return Math.min(charge / HOURS_OF_A_CHARGE, rest);
        }

        boolean isReady(int need) {
            return endurance() >= need;
        }

        boolean reaches(int where) {
            return Math.abs(where - place) <= width();
        }

        void letHoursPass(int hours) {
            if (maintained) {
                rest = Math.max(0, rest - 60 * hours);
            }
            charge = Math.min(fullCharge(), charge + hours * capacity());
        }

        void age(int points) {
            health = Math.max(0, health - points);
            charge = Math.min(charge, fullCharge());
        }

        /** Tests the light, and tells whether it passes. */
        boolean burn() {
            int minutes = Math.min(endurance(), ratedTime());
            rest -= minutes;
            charge -= HOURS_OF_A_CHARGE * minutes;
            age(wear());
            result = minutes;
            return minutes == ratedTime();
        }

        int property(int what, int need) {
            switch (what) {
                case 0: return place;
                case 1: return circuit;
                case 2: return battery;
                case 3: return lamp;
                case 4: return maintained ? 1 : 0;
                case 5: return health;
                case 6: return capacity();
                case 7: return charge;
                case 8: return rest;
                case 9: return endurance();
                case 10: return isReady(need) ? 1 : 0;
                default: return result;
            }
        }
    }

    /** All that a change can change, and so all that a remembered state holds. */
    private static final class Building {
        // a place in this row stays empty until a light is needed there, and is used again
        final Light[] lights = new Light[MOST_LIGHTS];
        int lightCount;
        final int[] from = new int[MOST_ROUTES];
        final int[] to = new int[MOST_ROUTES];
        int routeCount;
        int need = 60;
        int hours;
        final int[] stock = new int[LAST_LAMP + 1];
        int passed;
        int failed;

        /** The light with a number, or null if there is none. */
        Light find(int i) {
            return i >= 0 && i < lightCount && i < MOST_LIGHTS ? lights[i] : null;
        }

        /** One light more, of which nothing is set yet, or null if there is no room. */
        Light grow() {
            if (lightCount < 0 || lightCount >= MOST_LIGHTS) {
                return null;
            }
            Light light = lights[lightCount];
            if (light == null) {
                light = new Light();
                lights[lightCount] = light;
            }
            lightCount++;
            return light;
        }

        void removeLight(int i) {
            Light gone = find(i);
            if (gone == null) {
                return;
            }
            int last = i;
            for (int k = i + 1; k < lightCount && k < MOST_LIGHTS; k++) {
                lights[k - 1] = lights[k];
                last = k;
            }
            // to be used again by the next light that is added
            lights[last] = gone;
            lightCount--;
        }

        boolean hasRoute(int r) {
            return r >= 0 && r < routeCount && r < MOST_ROUTES;
        }

        int firstPlace(int r) {
            return hasRoute(r) ? from[r] : 0;
        }

        int lastPlace(int r) {
            return hasRoute(r) ? to[r] : 0;
        }

        void appendRoute(int first, int last) {
            if (routeCount >= 0 && routeCount < MOST_ROUTES) {
                from[routeCount] = first;
                to[routeCount] = last;
                routeCount++;
            }
        }

        void removeRoute(int r) {
            if (!hasRoute(r)) {
                return;
            }
            for (int k = r + 1; k < routeCount && k < MOST_ROUTES; k++) {
                from[k - 1] = from[k];
                to[k - 1] = to[k];
            }
            routeCount--;
        }

        void copyFrom(Building other) {
            copyLayout(other);
            need = other.need;
            hours = other.hours;
            passed = other.passed;
            failed = other.failed;
            for (int lamp = 0; lamp <= LAST_LAMP; lamp++) {
                stock[lamp] = other.stock[lamp];
            }
        }

        void copyLayout(Building other) {
            lightCount = 0;
            for (int i = 0; i < other.lightCount; i++) {
                Light model = other.find(i);
                Light light = grow();
                if (model != null && light != null) {
                    light.copyFrom(model);
                }
            }
            routeCount = 0;
            for (int r = 0; r < other.routeCount; r++) {
                appendRoute(other.firstPlace(r), other.lastPlace(r));
            }
        }

        int stockOf(int lamp) {
            return isLamp(lamp) ? stock[lamp] : 0;
        }

        void changeStock(int lamp, int by) {
            if (isLamp(lamp)) {
                stock[lamp] += by;
            }
        }

        /** Whether a set is one of lights that are there. */
        boolean holds(int set) {
            return set >= 0 && set < 1 << lightCount;
        }

        int withoutCircuit(int circuit) {
            int set = 0;
            for (int i = 0; i < lightCount; i++) {
                Light light = find(i);
                if (light != null && light.circuit != circuit) {
                    set |= 1 << i;
                }
            }
            return set;
        }

        int countReady() {
            int many = 0;
            for (int i = 0; i < lightCount; i++) {
                Light light = find(i);
                if (light != null && light.isReady(need)) {
                    many++;
                }
            }
            return many;
        }

        int countBurntOut() {
            int many = 0;
            for (int i = 0; i < lightCount; i++) {
                Light light = find(i);
                if (light != null && light.rest == 0) {
                    many++;
                }
            }
            return many;
        }

        int countReaching(int place, boolean ready) {
            int many = 0;
            for (int i = 0; i < lightCount; i++) {
                Light light = find(i);
                if (light != null && light.reaches(place) && (!ready || light.isReady(need))) {
                    many++;
                }
            }
            return many;
        }

        /** Puts lamps of the stock in where little is left of the old ones. */
        int putLamps(int rest) {
            int many = 0;
            for (int i = 0; i < lightCount; i++) {
                Light light = find(i);
                if (light != null && light.rest < rest) {
                    int lamp = lampInPlaceOf(light.lamp);
                    if (lamp != NONE) {
                        light.putLamp(lamp);
                        changeStock(lamp, -1);
                        many++;
                    }
                }
            }
            return many;
        }

        /** The kind that swapAll takes for a lamp of some kind, NONE if it takes none. */
        int lampInPlaceOf(int old) {
            if (stockOf(old) > 0) {
                return old;
            }
            for (int lamp = LAST_LAMP; lamp >= 0; lamp--) {
                if (stockOf(lamp) > 0) {
                    return Light.widthOf(lamp) >= Light.widthOf(old) ? lamp : NONE;
                }
            }
            return NONE;
        }

        void burn(int set) {
            for (int i = 0; i < lightCount; i++) {
                Light light = find(i);
                if (light != null && (set >> i & 1) == 1) {
                    if (light.burn()) {
                        passed++;
                    } else {
                        failed++;
                    }
                }
            }
        }

        /** In stretches, since between two ageings of the batteries all hours are alike. */
        void letHoursPass(int many) {
            int first = Math.min(many, HOURS_OF_AGEING - hours % HOURS_OF_AGEING);
            letStretchPass(first);
            for (int left = many - first; left > 0; left -= HOURS_OF_AGEING) {
                letStretchPass(Math.min(left, HOURS_OF_AGEING));
            }
        }

        void letStretchPass(int many) {
            hours += many;
            for (int i = 0; i < lightCount; i++) {
                Light light = find(i);
                if (light != null) {
                    light.letHoursPass(many);
                    if (hours % HOURS_OF_AGEING == 0) {
                        light.age(1);
                    }
                }
            }
        }
    }

    /** The remembered states, in a ring. */
    private static final class History {
        // a place in the ring stays empty until a state is recorded there, and is used again
        final Building[] kept = new Building[MOST_STATES];
        int next;
        int many;

        void keep(Building present) {
            slot(next).copyFrom(present);
            next = (next + 1) % MOST_STATES;
            many = Math.min(many + 1, MOST_STATES);
        }

        void restore(Building present) {
            if (many > 0) {
                next = (next + MOST_STATES - 1) % MOST_STATES;
                many--;
                present.copyFrom(slot(next));
            }
        }

        Building slot(int number) {
            int at = Math.floorMod(number, MOST_STATES);
            Building state = kept[at];
            if (state == null) {
                state = new Building();
                kept[at] = state;
            }
            return state;
        }
    }

    /** The text buffer, and the reader of what it says. */
    private static final class Text {
        final byte[] bytes = new byte[MOST_BYTES];
        int length;
        int at;
        int fault;

        boolean append(int c) {
            if (length < 0 || length >= MOST_BYTES) {
                return false;
            }
            bytes[length] = (byte) c;
            length++;
            return true;
        }

        /** Reads the text as a building; returns its fault, or NO_FAULT. */
        int readInto(Building building) {
            building.lightCount = 0;
            building.routeCount = 0;
            at = 0;
            fault = NO_FAULT;
            for (int part = 0; part < MOST_BYTES && at < length && fault == NO_FAULT; part++) {
                if (peek() == 'p' && building.lightCount < MOST_LIGHTS) {
                    readLight(building);
                } else if (peek() == 'r' && building.routeCount < MOST_ROUTES) {
                    readRoute(building);
                } else {
                    fail(at);
                }
            }
            return fault;
        }

        void readLight(Building building) {
            expect('p');
            int place = readNumber(3, 0, LAST_PLACE);
            expect('c');
            int circuit = readNumber(1, 0, LAST_CIRCUIT);
            expect('b');
            int battery = readNumber(1, 0, LAST_BATTERY);
            expect('l');
            int lamp = readNumber(1, 0, LAST_LAMP);
            boolean maintained = peek() == 'm';
            if (maintained) {
                expect('m');
            }
            expect(';');
            Light light = fault == NO_FAULT ? building.grow() : null;
            if (light != null) {
                light.begin(place, circuit, battery, lamp, maintained);
            }
        }

        void readRoute(Building building) {
            expect('r');
            int from = readNumber(3, 0, LAST_PLACE);
            expect('-');
            int to = readNumber(3, from, LAST_PLACE);
            expect(';');
            if (fault == NO_FAULT) {
                building.appendRoute(from, to);
            }
        }

        /** The byte that is to be read next, or -1 at the end of the text. */
        int peek() {
            return at >= 0 && at < length && at < MOST_BYTES ? bytes[at] : -1;
        }

        void expect(int c) {
            if (peek() == c) {
                at++;
            } else {
                fail(at);
            }
        }

        int readNumber(int digits, int least, int most) {
            int begin = at;
            int number = 0;
            for (int k = 0; k < digits && isAtDigit(); k++) {
                number = 10 * number + peek() - '0';
                at++;
            }
            if (at == begin || isAtDigit()) {
                // no digit, or one too many, which comes before what the number is
                fail(at);
            } else if (number < least || number > most) {
                fail(at - 1);
            }
            return number;
        }

        boolean isAtDigit() {
            return peek() >= '0' && peek() <= '9';
        }

        /** Only the first fault counts: the reader goes on behind it to the end of the part. */
        void fail(int where) {
            if (fault == NO_FAULT) {
                fault = where;
            }
        }
    }

    /** Which places the lights reach. */
    private static final class Reach {
        final int[] near = new int[LAST_PLACE + 1];
        final int[] longest = new int[LAST_PLACE + 1];

        /** Notes for each place which of the lights that are ready reach it. */
        void look(Building building) {
            for (int place = 0; place <= LAST_PLACE; place++) {
                near[place] = 0;
            }
            for (int i = 0; i < building.lightCount; i++) {
                Light light = building.find(i);
                if (light != null && light.endurance() >= building.need) {
                    int first = Math.max(0, light.place - light.width());
                    int last = Math.min(LAST_PLACE, light.place + light.width());
                    for (int place = first; place <= last; place++) {
                        near[place] |= 1 << i;
                    }
                }
            }
        }

        /** The lights that were noted for a place. */
        int nearTo(int place) {
            return place >= 0 && place <= LAST_PLACE ? near[place] : 0;
        }

        /** How many of the places of a route are reached by none of the noted lights of a set. */
        int dark(int from, int to, int set) {
            int many = 0;
            for (int place = from; place <= to; place++) {
                if ((nearTo(place) & set) == 0) {
                    many++;
                }
            }
            return many;
        }

        /** How long a route lasts with the lights of a set, ready or not. */
        int minutes(Building building, int r, int set) {
            int from = Math.max(0, building.firstPlace(r));
            int to = Math.min(LAST_PLACE, building.lastPlace(r));
            if (from > to) {
                return 0;
            }
            for (int place = from; place <= to; place++) {
                longest[place] = 0;
            }
            for (int i = 0; i < building.lightCount; i++) {
                Light light = building.find(i);
                if (light != null && (set >> i & 1) == 1) {
                    lengthen(light, from, to);
                }
            }
            int least = longest[from];
            for (int place = from + 1; place <= to; place++) {
                least = Math.min(least, longest[place]);
            }
            return least;
        }

        /** Lets a light shine on the places of a route. */
        void lengthen(Light light, int from, int to) {
            int first = Math.max(from, light.place - light.width());
            int last = Math.min(to, light.place + light.width());
            int endurance = light.endurance();
            for (int place = first; place <= last; place++) {
                if (isPlace(place)) {
                    longest[place] = Math.max(longest[place], endurance);
                }
            }
        }
    }

    /** Finds the best plan, and keeps it until something changes. */
    private static final class Planner {
        // for each set of lights the fewest days on which they can be tested: 1 if it is allowed
        final byte[] fewest = new byte[EVERY_LIGHT + 1];
        final int[] sets = new int[MOST_LIGHTS];
        int dayCount;
        boolean fresh;

        /** The plan has to be found again; the old one can still be read until then. */
        void forget() {
            fresh = false;
        }

        int setOn(int day) {
            return day >= 0 && day < dayCount && day < MOST_LIGHTS ? sets[day] : NONE;
        }

        int dayOf(int i) {
            for (int day = 0; day < dayCount; day++) {
                if ((setOn(day) >> i & 1) == 1) {
                    return day;
                }
            }
            return NONE;
        }

        /** Makes the plan that of a building, which is always the same one. */
        void follow(Building building, Reach reach) {
            if (fresh) {
                return;
            }
            dayCount = fewestDays(building, reach);
            int left = (1 << building.lightCount) - 1;
            for (int day = 0; day < dayCount && day < MOST_LIGHTS; day++) {
                sets[day] = firstSet(left);
                left ^= sets[day];
            }
            fresh = true;
        }

        int fewestDays(Building building, Reach reach) {
            int all = Math.min(EVERY_LIGHT, (1 << building.lightCount) - 1);
            reach.look(building);
            markForbidden(building, reach, all);
            for (int i = 0; i < building.lightCount; i++) {
                // what is not allowed alone is not allowed together with others
                if (daysFor(1 << i) > 1) {
                    return NONE;
                }
            }
            for (int set = 1; set <= all; set++) {
                if (fewest[set] > 1 || holdsForbidden(set)) {
                    fewest[set] = (byte) fewestApart(set);
                }
            }
            return daysFor(all);
        }

        /** Gives more than one day to all sets that alone reach a place of a route that is safe. */
        void markForbidden(Building building, Reach reach, int all) {
            for (int set = 1; set <= all && set <= EVERY_LIGHT; set++) {
                fewest[set] = 1;
            }
            for (int r = 0; r < building.routeCount; r++) {
                int from = building.firstPlace(r);
                int to = building.lastPlace(r);
                if (reach.dark(from, to, EVERY_LIGHT) == 0) {
                    for (int place = from; place <= to; place++) {
                        forbid(reach.nearTo(place));
                    }
                }
            }
        }

        void forbid(int set) {
            if (set > 0 && set <= EVERY_LIGHT) {
                fewest[set] = 2;
            }
        }

        int daysFor(int set) {
            return set >= 0 && set <= EVERY_LIGHT ? fewest[set] : 0;
        }

        /** Whether a set without one of its lights is not allowed, so that it is not allowed either. */
        boolean holdsForbidden(int set) {
            for (int i = 0; i < MOST_LIGHTS; i++) {
                if ((set >> i & 1) == 1 && daysFor(set ^ 1 << i) > 1) {
                    return true;
                }
            }
            return false;
        }

        /** The fewest days for a set that is not allowed, if those for all smaller numbers are known. */
        int fewestApart(int set) {
            int first = set & -set;
            int others = set ^ first;
            int least = 1 + daysFor(others);
            // the first day takes not all others; less than two days are not possible
            for (int with = others - 1 & others; with > 0 && least > 2; with = with - 1 & others) {
                if (daysFor(first | with) == 1) {
                    least = Math.min(least, 1 + daysFor(others ^ with));
                }
            }
            return least;
        }

        /** The set of the first one of the days on which all lights that are left are tested. */
        int firstSet(int left) {
            int first = left & -left;
            int others = left ^ first;
            int smallest = left;
            for (int with = others; with > 0; with = with - 1 & others) {
                if (begins(first | with, left)) {
                    smallest = first | with;
                }
            }
            return begins(first, left) ? first : smallest;
        }

        boolean begins(int set, int left) {
            return daysFor(set) == 1 && daysFor(left ^ set) == daysFor(left) - 1;
        }
    }
}
