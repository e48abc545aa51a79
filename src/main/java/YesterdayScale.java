/** A scale that shows today and yesterday together; ../shared/DOC.md says what each call answers. */
public final class YesterdayScale {
    public static final int NONE = -1000000, BAD = -1000001, STATE = -1000002, FULL = -1000003;

    private static final int FOUND = -1000010, FAULT_AT = -1000100;
    private static final int FOUND_NULL = 1, FOUND_PLACE = 2, FOUND_KIND = 3, FOUND_SIZE = 4, FOUND_STORE = 5;
    private static final int ALL_ROWS = 8, ALL_IMAGES = 2, LAST_LANE = 2, MOST_ITEMS = 40;
    private static final int MOST_THINGS = 4, MOST_TOLD_DAYS = 12, MOST_DAYS = 24, FORETOLD_DAYS = 2;
    private static final int HEAVIEST = 7, LAST_KIND = 5, LAST_HEAVY_DAY = 99;
    private static final int GAP = -1;

    private final Row[] rows = new Row[ALL_ROWS];
    private final Tape tape = new Tape();
    private final Port current = new Port();
    private final Port draft = new Port();
    private final Port[] images = new Port[ALL_IMAGES];
    private final Worlds worlds = new Worlds();
    private final Asking asking = new Asking();
    private int latestFault;
    private int latestFinding;

    public YesterdayScale() {
        for (int i = 0; i < ALL_ROWS; i++) {
            rows[i] = new Row();
        }
        for (int i = 0; i < ALL_IMAGES; i++) {
            images[i] = new Port();
        }
    }

    // ---- rows

    public int row(int row, int lane, int n) {
        if (!isRow(row) || lane < 0 || lane > LAST_LANE || n > MOST_ITEMS) {
            return BAD;
        }
        if (n < 0) {
            return found(FOUND_SIZE);
        }
        rows[row].begin(lane, n);
        return passed(n);
    }

    public int set(int row, int i, int v) {
        if (!isRow(row)) {
            return BAD;
        }
        Row changed = rows[row];
        if (!changed.there) {
            return found(FOUND_NULL);
        }
        if (i < 0 || i >= changed.size) {
            return found(FOUND_PLACE);
        }
        changed.items[i] = changed.cut(v);
        return passed(changed.items[i]);
    }

    public int copy(int a, int i, int b, int j, int n) {
        if (!isRow(a) || !isRow(b)) {
            return BAD;
        }
        Row from = rows[a];
        Row to = rows[b];
        if (!from.there || !to.there) {
            return found(FOUND_NULL);
        }
        if (from.lane != to.lane) {
            return found(FOUND_STORE);
        }
        if (!from.hasPlaces(i, n) || !to.hasPlaces(j, n)) {
            return found(FOUND_PLACE);
        }
        System.arraycopy(from.items, i, to.items, j, n);
        return passed(n);
    }

    public int drop(int row) {
        if (!isRow(row)) {
            return BAD;
        }
        if (!rows[row].there) {
            return found(FOUND_NULL);
        }
        rows[row].there = false;
        return passed(rows[row].size);
    }

    // ---- ports, days

    public int feed(long w, int n) {
        if (n < 1 || n > Tape.MOST_FED) {
            return BAD;
        }
        return tape.hasRoom(n) ? tape.append(w, n) : FULL;
    }

    public int port() {
        if (!tape.readInto(draft)) {
            latestFault = tape.faultNumber;
            return FAULT_AT - tape.faultPlace;
        }
        draft.makeThings();
        current.become(draft);
        worlds.forget();
        return current.days;
    }

    public int fault() {
        return latestFault;
    }

    public int day(int set) {
        if (!current.there) {
            return STATE;
        }
        if (!current.canLay(set)) {
            return BAD;
        }
        if (current.days >= MOST_DAYS) {
            return FULL;
        }
        current.addDay(set);
        worlds.forget();
        return current.shownOn(current.days - 1);
    }

    public int undo() {
        if (current.days <= 0) {
            return STATE;
        }
        current.days--;
        worlds.forget();
        return current.days;
    }

    public int shown(int day, int what) {
        if (!current.hasDay(day)) {
            return BAD;
        }
        switch (what) {
            case 0: return current.sets[day];
            case 1: return current.loadOn(day);
            case 2: return current.shownOn(day);
            case 3: return current.isFresh(day) ? 1 : 0;
            default: return BAD;
        }
    }

    public int heavy(int thing, int day) {
        Thing weighed = current.thingAt(thing);
        if (weighed == null || day < -1 || day > LAST_HEAVY_DAY) {
            return BAD;
        }
        return day < 0 ? weighed.weight : weighed.heavyWith(weighed.weight, day);
    }

    // ---- foretold

    public int next(int set) {
        if (!current.there) {
            return STATE;
        }
        if (!current.canLay(set)) {
            return BAD;
        }
        current.sets[current.days] = set;
        return current.shownOn(current.days);
    }

    public int fits(int row, int thing, int w) {
        boolean anyThing = thing == -1;
        boolean noThing = !anyThing && current.thingAt(thing) == null;
        int refusal = refusalToTell(row, noThing || w < 0 || w > HEAVIEST);
        if (refusal != 0) {
            return refusal;
        }
        worlds.begin(current, rows[row].items);
        return passed(anyThing ? worlds.howManyFit() : worlds.howManyFitWith(thing, w));
    }

    public int sure(int row, int thing) {
        int refusal = refusalToTell(row, current.thingAt(thing) == null);
        if (refusal != 0) {
            return refusal;
        }
        worlds.begin(current, rows[row].items);
        return passed(worlds.sureWeight(thing));
    }

    public int gap(int row, int day) {
        int refusal = refusalToTell(row, !current.hasDay(day));
        if (refusal != 0) {
            return refusal;
        }
        worlds.begin(current, rows[row].items);
        return passed(worlds.sureShown(day));
    }

    public int wrong(int row, int what) {
        int refusal = refusalToTell(row, what < 0 || what > 1);
        if (refusal != 0) {
            return refusal;
        }
        worlds.begin(current, rows[row].items);
        int falseDays = worlds.fewestFalse();
        return passed(what == 0 ? Integer.bitCount(falseDays) : falseDays);
    }

    public int soon(int k) {
        if (!current.there) {
            return STATE;
        }
        if (k < -1) {
            return BAD;
        }
        worlds.learnSoon(current);
        return k < 0 ? worlds.soonDays : worlds.soonSet(k);
    }

    public int laws(int row) {
        int refusal = refusalToTell(row, false);
        return refusal != 0 ? refusal : passed(current.lawsTelling(rows[row].items));
    }

    public int error(int day) {
        return current.hasDay(day) ? current.changedBy(day) : BAD;
    }

    public int sold(int thing, int day) {
        Thing bought = current.thingAt(thing);
        if (bought == null || day < 1 || !current.hasDay(day) || !current.liesOn(thing, day)) {
            return BAD;
        }
        int paid = current.shownOn(day) - current.shownOn(day - 1);
        return paid - bought.heavyWith(bought.weight, day);
    }

    public int image(int k) {
        if (!isImage(k)) {
            return BAD;
        }
        if (!current.there) {
            return STATE;
        }
        images[k].become(current);
        return 1;
    }

    public int restore(int k) {
        if (!isImage(k)) {
            return BAD;
        }
        if (!images[k].there) {
            return STATE;
        }
        current.become(images[k]);
        worlds.forget();
        return 1;
    }

    // ---- asked

    public int kind(int thing) {
        Thing asked = current.thingAt(thing);
        return asked == null ? BAD : asked.kindNumber();
    }

    public int as(int thing, int kind) {
        Thing taken = current.thingAt(thing);
        if (taken == null || kind < 0 || kind > LAST_KIND) {
            return BAD;
        }
        return isOfKind(taken, kind) ? passed(taken.number) : found(FOUND_KIND);
    }

    public int ask(int thing, int what) {
        Thing asked = current.thingAt(thing);
        if (asked == null || what < 0 || what > 1) {
            return BAD;
        }
        asking.begin(current.days);
        return what == 0 ? asked.sizeBy(asking, 0) : asked.markBy(asking, 0);
    }

    public int trace(int i) {
        return i >= 0 && i < asking.traced ? asking.numbers[i] : NONE;
    }

    public int count(int what) {
        switch (what) {
            case 0: return howManyRows();
            case 1: return current.things;
            case 2: return current.days;
            case 3: return current.keeps;
            case 4: return current.half;
            case 5: return current.top;
            case 6: return tape.length;
            default: return BAD;
        }
    }

    public int status() {
        return latestFinding;
    }

    // ---- what several calls need

    private static boolean isRow(int number) {
        return number >= 0 && number < ALL_ROWS;
    }

    private static boolean isImage(int number) {
        return number >= 0 && number < ALL_IMAGES;
    }

    private int found(int finding) {
        latestFinding = finding;
        return FOUND - finding;
    }

    private int passed(int answer) {
        latestFinding = 0;
        return answer;
    }

    private int howManyRows() {
        int there = 0;
        for (int i = 0; i < ALL_ROWS; i++) {
            if (rows[i].there) {
                there++;
            }
        }
        return there;
    }

    /** The answer that a ROW gets which cannot tell all DAYS, or comes with a number that is not as told; 0: none. */
    private int refusalToTell(int row, boolean notAsTold) {
        if (!current.there) {
            return STATE;
        }
        if (notAsTold || !isRow(row)) {
            return BAD;
        }
        Row telling = rows[row];
        if (!telling.there) {
            return found(FOUND_NULL);
        }
        if (telling.size < current.days) {
            return found(FOUND_PLACE);
        }
        for (int day = 0; day < current.days; day++) {
            if (telling.items[day] < GAP) {
                return BAD;
            }
        }
        return 0;
    }

    private static boolean isOfKind(Thing thing, int kind) {
        switch (kind) {
            case 0: return true;
            case Salt.KIND: return thing instanceof Salt;
            case Fish.KIND: return thing instanceof Fish;
            case Wool.KIND: return thing instanceof Wool;
            case Stone.KIND: return thing instanceof Stone;
            case Whale.KIND: return thing instanceof Whale;
            default: return false;
        }
    }

    private static final class Row {
        boolean there;
        int lane;
        int size;
        final int[] items = new int[MOST_ITEMS];

        void begin(int newLane, int newSize) {
            there = true;
            lane = newLane;
            size = newSize;
            for (int i = 0; i < MOST_ITEMS; i++) {
                items[i] = 0;
            }
        }

        int cut(int value) {
            switch (lane) {
                case 0: return (byte) value;
                case 1: return (short) value;
                default: return value;
            }
        }

        /** Asked by a difference, as a sum of the two could wrap around. */
        boolean hasPlaces(int from, int many) {
            return from >= 0 && many >= 0 && from <= size && many <= size - from;
        }
    }

    /** The bytes that were fed, and the reading of a PORT out of them, TOKEN by TOKEN. */
    private static final class Tape {
        static final int MOST_BYTES = 400, MOST_FED = 8, BYTE_BITS = 8, MOST_FIGURES = 3;
        static final int MOST_KEEPS = 3, LEAST_TOP = 2, MOST_TOP = 200;
        static final int END = 0, NAME = 1, NUMBER = 2, SEMICOLON = 3, NO_TOKEN = 4;
        static final int CANNOT_STAND = 1, NOT_AS_TOLD = 2, NO_ROOM = 3;

        final byte[] bytes = new byte[MOST_BYTES];
        int length;
        int faultNumber;
        int faultPlace;
        private int at;
        private int start;
        private int token;
        private int taken;

        boolean hasRoom(int many) {
            return many <= MOST_BYTES - length;
        }

        int append(long word, int many) {
            for (int i = many - 1; i >= 0 && length < MOST_BYTES; i--) {
                bytes[length] = (byte) (word >> (BYTE_BITS * i));
                length++;
            }
            return length;
        }

        boolean readInto(Port into) {
            into.clear();
            at = 0;
            advance();
            boolean whole = readLaw(into) && readThings(into) && readDays(into) && readEnd();
            into.there = whole;
            length = 0;
            return whole;
        }

        private boolean readLaw(Port into) {
            if (!takeWord("law") || !takeNumber(0, MOST_KEEPS)) {
                return false;
            }
            into.keeps = taken;
            if (!takeNumber(0, 1)) {
                return false;
            }
            into.half = taken;
            if (!takeNumber(LEAST_TOP, MOST_TOP)) {
                return false;
            }
            into.top = taken;
            return takeSemicolon();
        }

        private boolean readThings(Port into) {
            for (int i = 0; i <= MOST_THINGS && isWord("thing"); i++) {
                if (i == MOST_THINGS) {
                    return fail(NO_ROOM);
                }
                advance();
                if (!readThing(into)) {
                    return false;
                }
            }
            return true;
        }

        private boolean readThing(Port into) {
            int sort = sortNamed();
            if (sort == 0) {
                return fail(CANNOT_STAND);
            }
            advance();
            if (!takeNumber(0, HEAVIEST)) {
                return false;
            }
            into.addThing(sort, taken);
            return takeSemicolon();
        }

        private boolean readDays(Port into) {
            for (int i = 0; i <= MOST_TOLD_DAYS && isWord("day"); i++) {
                if (i == MOST_TOLD_DAYS) {
                    return fail(NO_ROOM);
                }
                advance();
                if (!takeNumber(0, into.allThings())) {
                    return false;
                }
                into.addDay(taken);
                if (!takeSemicolon()) {
                    return false;
                }
            }
            return true;
        }

        private boolean readEnd() {
            return token == END || fail(CANNOT_STAND);
        }

        /** The KIND whose SORT the TOKEN names; 0: it names none. */
        private int sortNamed() {
            if (isWord("salt")) {
                return Salt.KIND;
            }
            if (isWord("fish")) {
                return Fish.KIND;
            }
            if (isWord("wool")) {
                return Wool.KIND;
            }
            if (isWord("stone")) {
                return Stone.KIND;
            }
            return isWord("whale") ? Whale.KIND : 0;
        }

        private boolean takeWord(String word) {
            if (!isWord(word)) {
                return fail(CANNOT_STAND);
            }
            advance();
            return true;
        }

        private boolean takeNumber(int least, int most) {
            if (token != NUMBER) {
                return fail(CANNOT_STAND);
            }
            taken = numberRead();
            if (taken < least || taken > most) {
                return fail(NOT_AS_TOLD);
            }
            advance();
            return true;
        }

        private boolean takeSemicolon() {
            if (token != SEMICOLON) {
                return fail(CANNOT_STAND);
            }
            advance();
            return true;
        }

        private boolean fail(int number) {
            faultNumber = number;
            faultPlace = start;
            return false;
        }

        private boolean isWord(String word) {
            if (token != NAME || at - start != word.length()) {
                return false;
            }
            for (int i = start; i < at; i++) {
                if (bytes[i] != word.charAt(i - start)) {
                    return false;
                }
            }
            return true;
        }

        private int numberRead() {
            int number = 0;
            for (int i = start; i < at; i++) {
                number = number * 10 + bytes[i] - '0';
            }
            return number;
        }

        private void advance() {
            while (at < length && isBetween(bytes[at])) {
                at++;
            }
            start = at;
            if (at >= length) {
                token = END;
            } else if (isLetter(bytes[at])) {
                while (at < length && isLetter(bytes[at])) {
                    at++;
                }
                token = NAME;
            } else if (isFigure(bytes[at])) {
                while (at < length && isFigure(bytes[at])) {
                    at++;
                }
                token = at - start <= MOST_FIGURES ? NUMBER : NO_TOKEN;
            } else {
                token = bytes[at] == ';' ? SEMICOLON : NO_TOKEN;
                at++;
            }
        }

        private static boolean isBetween(int sign) {
            return sign == ' ' || sign == '\n';
        }

        private static boolean isLetter(int sign) {
            return sign >= 'a' && sign <= 'z';
        }

        private static boolean isFigure(int sign) {
            return sign >= '0' && sign <= '9';
        }
    }

    /** A law with its THINGS and DAYS, and what the scale SHOWS by them. */
    private static final class Port {
        static final int ALL_KEEPS = 4, NO_DAY = -1;

        boolean there;
        int keeps;
        int half;
        int top;
        int things;
        int days;
        int stones;
        final int[] sorts = new int[MOST_THINGS];
        final int[] weights = new int[MOST_THINGS];
        final Thing[] laid = new Thing[MOST_THINGS];
        /** Places behind the last DAY are free to try DAYS in that are only foretold. */
        final int[] sets = new int[MOST_DAYS + FORETOLD_DAYS];

        /** The law needs no clearing: it is read anew ahead of all else. */
        void clear() {
            things = 0;
            days = 0;
            stones = 0;
        }

        void become(Port other) {
            there = other.there;
            keeps = other.keeps;
            half = other.half;
            top = other.top;
            things = other.things;
            days = other.days;
            stones = other.stones;
            for (int i = 0; i < MOST_THINGS; i++) {
                sorts[i] = other.sorts[i];
                weights[i] = other.weights[i];
                laid[i] = other.laid[i];
            }
            System.arraycopy(other.sets, 0, sets, 0, sets.length);
        }

        void addThing(int sort, int weight) {
            if (things >= MOST_THINGS) {
                return;
            }
            sorts[things] = sort;
            weights[things] = weight;
            if (sort == Stone.KIND) {
                stones |= 1 << things;
            }
            things++;
        }

        /** Apart from reading: a PORT with a FAULT makes none, and calls go less deep. */
        void makeThings() {
            for (int i = 0; i < things; i++) {
                laid[i] = made(sorts[i], i, weights[i]);
            }
        }

        private static Thing made(int sort, int number, int weight) {
            switch (sort) {
                case Fish.KIND: return new Fish(number, weight);
                case Wool.KIND: return new Wool(number, weight);
                case Stone.KIND: return new Stone(number, weight);
                case Whale.KIND: return new Whale(number, weight);
                default: return new Salt(number, weight);
            }
        }

        void addDay(int set) {
            if (days >= MOST_DAYS) {
                return;
            }
            sets[days] = set;
            days++;
        }

        int allThings() {
            return (1 << things) - 1;
        }

        boolean canLay(int set) {
            return set >= 0 && set <= allThings();
        }

        Thing thingAt(int number) {
            return number >= 0 && number < things ? laid[number] : null;
        }

        boolean hasDay(int number) {
            return number >= 0 && number < days;
        }

        boolean liesOn(int thing, int onDay) {
            return ((sets[onDay] >> thing) & 1) != 0;
        }

        boolean isFresh(int onDay) {
            return (sets[onDay] & stones) != 0;
        }

        int loadOn(int onDay) {
            int load = 0;
            for (int i = 0; i < things; i++) {
                Thing lying = laid[i];
                if (lying != null && liesOn(i, onDay)) {
                    load += lying.heavyWith(lying.weight, onDay);
                }
            }
            return load;
        }

        /** How many DAYS ahead of one still count on it, if so many are kept. */
        int reachOf(int onDay, int kept) {
            int reach = 0;
            while (reach < kept && onDay - reach > 0 && !isFresh(onDay - reach)) {
                reach++;
            }
            return reach;
        }

        int shownOn(int onDay) {
            return shownBy(onDay, keeps, half, NO_DAY);
        }

        /** What a DAY would SHOW by other laws, or were the LOAD of the DAY heavier one more. */
        private int shownBy(int onDay, int kept, int halved, int heavier) {
            int sum = 0;
            int reach = reachOf(onDay, kept);
            for (int k = 0; k <= reach; k++) {
                int load = loadOn(onDay - k);
                if (onDay - k == heavier) {
                    load++;
                }
                sum += load >> (k * halved);
            }
            return leftOver(sum, top);
        }

        int changedBy(int heavier) {
            int changed = 0;
            for (int i = 0; i < days; i++) {
                if (shownBy(i, keeps, half, heavier) != shownOn(i)) {
                    changed |= 1 << i;
                }
            }
            return changed;
        }

        int lawsTelling(int[] told) {
            int telling = 0;
            for (int law = 0; law < 2 * ALL_KEEPS; law++) {
                if (tellsBy(law % ALL_KEEPS, law / ALL_KEEPS, told)) {
                    telling |= 1 << law;
                }
            }
            return telling;
        }

        private boolean tellsBy(int kept, int halved, int[] told) {
            for (int i = 0; i < days; i++) {
                if (told[i] != GAP && told[i] != shownBy(i, kept, halved, NO_DAY)) {
                    return false;
                }
            }
            return true;
        }

        static int leftOver(int sum, int top) {
            return top > 0 ? sum % top : sum;
        }
    }

    /**
     * All WORLDS of a PORT. The number of a WORLD holds three bits for each THING. LOADS stand in tables, as one
     * call may ask for some hundred thousand of them: of each DAY a part for the THINGS 0 and 1, one for 2 and 3.
     */
    private static final class Worlds {
        static final int WEIGHT_BITS = 3, WEIGHTS = 8;
        static final int PAIR_BITS = 2 * WEIGHT_BITS, PAIRS = 1 << PAIR_BITS, MOST_WORLDS = PAIRS * PAIRS;
        static final int ALL_DAYS = MOST_DAYS + FORETOLD_DAYS;

        int soonDays;
        private boolean soonKnown;
        private int soonFirst;
        private int soonSecond;
        private int half;
        private int top;
        private int days;
        private int worlds;
        private final int[] lower = new int[ALL_DAYS * PAIRS];
        private final int[] upper = new int[ALL_DAYS * PAIRS];
        private final int[] reaches = new int[ALL_DAYS];
        private final int[] told = new int[MOST_DAYS];
        private final int[] fitting = new int[MOST_WORLDS];

        void begin(Port port, int[] telling) {
            take(port);
            System.arraycopy(telling, 0, told, 0, days);
        }

        private void take(Port port) {
            half = port.half;
            top = port.top;
            days = port.days;
            worlds = 1 << (WEIGHT_BITS * port.things);
            for (int i = 0; i < days; i++) {
                takeDay(port, i);
            }
        }

        private void takeDay(Port port, int onDay) {
            reaches[onDay] = port.reachOf(onDay, port.keeps);
            fillPair(lower, port, 0, onDay);
            fillPair(upper, port, 2, onDay);
        }

        private static void fillPair(int[] table, Port port, int first, int onDay) {
            int base = onDay * PAIRS;
            for (int weight = 0; weight < WEIGHTS; weight++) {
                table[base + weight] = heavyIn(port, first, weight, onDay);
            }
            // The sums with weight 0 come last: they take the places that all others are made from.
            for (int weight = WEIGHTS - 1; weight >= 0; weight--) {
                int more = heavyIn(port, first + 1, weight, onDay);
                for (int i = 0; i < WEIGHTS; i++) {
                    table[base + weight * WEIGHTS + i] = table[base + i] + more;
                }
            }
        }

        private static int heavyIn(Port port, int thing, int weight, int onDay) {
            Thing weighed = port.thingAt(thing);
            return weighed != null && port.liesOn(thing, onDay) ? weighed.heavyWith(weight, onDay) : 0;
        }

        private static int weightIn(int world, int thing) {
            return (world >> (WEIGHT_BITS * thing)) & HEAVIEST;
        }

        private int shownIn(int world, int onDay) {
            int low = world & (PAIRS - 1);
            int high = world >> PAIR_BITS;
            int reach = reaches[onDay];
            int sum = 0;
            for (int k = 0; k <= reach; k++) {
                int base = (onDay - k) * PAIRS;
                sum += (lower[base + low] + upper[base + high]) >> (k * half);
            }
            return Port.leftOver(sum, top);
        }

        private boolean isFitting(int world) {
            for (int i = 0; i < days; i++) {
                if (told[i] != GAP && told[i] != shownIn(world, i)) {
                    return false;
                }
            }
            return true;
        }

        int howManyFit() {
            int many = 0;
            for (int world = 0; world < worlds; world++) {
                if (isFitting(world)) {
                    many++;
                }
            }
            return many;
        }

        int howManyFitWith(int thing, int weight) {
            int many = 0;
            for (int world = 0; world < worlds; world++) {
                if (weightIn(world, thing) == weight && isFitting(world)) {
                    many++;
                }
            }
            return many;
        }

        int sureWeight(int thing) {
            int only = NONE;
            for (int world = 0; world < worlds; world++) {
                int weight = weightIn(world, thing);
                if (weight != only && isFitting(world)) {
                    if (only != NONE) {
                        return NONE;
                    }
                    only = weight;
                }
            }
            return only;
        }

        int sureShown(int onDay) {
            int only = NONE;
            for (int world = 0; world < worlds; world++) {
                if (isFitting(world)) {
                    int showing = shownIn(world, onDay);
                    if (only != NONE && only != showing) {
                        return NONE;
                    }
                    only = showing;
                }
            }
            return only;
        }

        /** The fewest false DAYS, as bits; any WORLD would fit, were all DAYS false. */
        int fewestFalse() {
            int fewest = (1 << days) - 1;
            int many = days;
            for (int world = 0; world < worlds; world++) {
                int bits = falseIn(world, many);
                int manyHere = Integer.bitCount(bits);
                if (manyHere < many || manyHere == many && bits < fewest) {
                    fewest = bits;
                    many = manyHere;
                }
            }
            return fewest;
        }

        /** The DAYS that are false in a WORLD; one more than most is enough to know that it won't do. */
        private int falseIn(int world, int most) {
            int bits = 0;
            int many = 0;
            for (int i = 0; i < days && many <= most; i++) {
                if (told[i] != GAP && told[i] != shownIn(world, i)) {
                    bits |= 1 << i;
                    many++;
                }
            }
            return bits;
        }

        /** SOON is dear and is asked for piece by piece, so it is kept until the PORT changes. */
        void forget() {
            soonKnown = false;
        }

        int soonSet(int k) {
            if (k < 0 || k >= soonDays) {
                return NONE;
            }
            return k == 0 ? soonFirst : soonSecond;
        }

        void learnSoon(Port port) {
            if (soonKnown) {
                return;
            }
            soonKnown = true;
            soonDays = NONE;
            take(port);
            int many = gatherTrue(port);
            if (many == 1) {
                soonDays = 0;
                return;
            }
            int truth = worldOf(port);
            if (!findOneDay(port, many, truth)) {
                findTwoDays(port, many, truth);
            }
        }

        private static int worldOf(Port port) {
            int world = 0;
            for (int i = 0; i < port.things; i++) {
                world |= port.weights[i] << (WEIGHT_BITS * i);
            }
            return world;
        }

        private int gatherTrue(Port port) {
            for (int i = 0; i < days; i++) {
                told[i] = port.shownOn(i);
            }
            int many = 0;
            for (int world = 0; world < worlds; world++) {
                if (isFitting(world)) {
                    fitting[many] = world;
                    many++;
                }
            }
            return many;
        }

        private boolean findOneDay(Port port, int many, int truth) {
            for (int set = 0; set <= port.allThings(); set++) {
                port.sets[days] = set;
                takeDay(port, days);
                if (isAlone(truth, many, days)) {
                    soonDays = 1;
                    soonFirst = set;
                    return true;
                }
            }
            return false;
        }

        private void findTwoDays(Port port, int many, int truth) {
            for (int set = 0; set <= port.allThings(); set++) {
                port.sets[days] = set;
                takeDay(port, days);
                int left = bringForward(truth, many);
                for (int then = 0; then <= port.allThings(); then++) {
                    port.sets[days + 1] = then;
                    takeDay(port, days + 1);
                    if (isAlone(truth, left, days + 1)) {
                        soonDays = 2;
                        soonFirst = set;
                        soonSecond = then;
                        return;
                    }
                }
            }
        }

        /** Whether none but the true one of the first so many fitting WORLDS SHOWS what that one does. */
        private boolean isAlone(int truth, int many, int onDay) {
            int showing = shownIn(truth, onDay);
            for (int i = 0; i < many; i++) {
                if (fitting[i] != truth && shownIn(fitting[i], onDay) == showing) {
                    return false;
                }
            }
            return true;
        }

        /** The fitting WORLDS that SHOW on the first foretold DAY what the true one does come first: how many. */
        private int bringForward(int truth, int many) {
            int showing = shownIn(truth, days);
            int left = 0;
            for (int i = 0; i < many; i++) {
                int world = fitting[i];
                if (shownIn(world, days) == showing) {
                    fitting[i] = fitting[left];
                    fitting[left] = world;
                    left++;
                }
            }
            return left;
        }
    }

    /** THE TRACE of an ask, and what its BODIES must know. */
    private static final class Asking {
        /** SIZE and MARK ask for each other, so how deep that goes is looked at where one is asked anew. */
        static final int DEEPEST = 8;
        static final int MOST_TRACED = 16;

        int traced;
        int days;
        final int[] numbers = new int[MOST_TRACED];

        void begin(int daysNow) {
            traced = 0;
            days = daysNow;
        }

        void enter(int body) {
            if (traced < MOST_TRACED) {
                numbers[traced] = body;
                traced++;
            }
        }
    }

    /** A THING with the BODIES that are lent to all. */
    private abstract static class Thing {
        final int number;
        final int weight;

        Thing(int number, int weight) {
            this.number = number;
            this.weight = weight;
        }

        abstract int kindNumber();

        int heavyWith(int ofWeight, int onDay) {
            return ofWeight;
        }

        int sizeBy(Asking asking, int depth) {
            asking.enter(10);
            return weight;
        }

        int markBy(Asking asking, int depth) {
            asking.enter(20);
            return number;
        }
    }

    private static class Salt extends Thing {
        static final int KIND = 1;

        Salt(int number, int weight) {
            super(number, weight);
        }

        int kindNumber() {
            return KIND;
        }

        int sizeBy(Asking asking, int depth) {
            asking.enter(11);
            int lent = super.sizeBy(asking, depth);
            return depth < Asking.DEEPEST ? lent + markBy(asking, depth + 1) : lent;
        }

        int markBy(Asking asking, int depth) {
            asking.enter(21);
            return super.markBy(asking, depth) + asking.days;
        }
    }

    private static final class Fish extends Salt {
        static final int KIND = 2, DAYS_TO_DRY = 3;

        Fish(int number, int weight) {
            super(number, weight);
        }

        int kindNumber() {
            return KIND;
        }

        int heavyWith(int ofWeight, int onDay) {
            int left = ofWeight - onDay / DAYS_TO_DRY;
            return left > 0 ? left : 0;
        }

        int markBy(Asking asking, int depth) {
            asking.enter(22);
            return super.markBy(asking, depth) - 1000;
        }
    }

    private static final class Wool extends Salt {
        static final int KIND = 3, DAYS_TO_SOAK = 4;

        Wool(int number, int weight) {
            super(number, weight);
        }

        int kindNumber() {
            return KIND;
        }

        int heavyWith(int ofWeight, int onDay) {
            return ofWeight + onDay / DAYS_TO_SOAK;
        }

        int sizeBy(Asking asking, int depth) {
            asking.enter(12);
            return -super.sizeBy(asking, depth);
        }

        int markBy(Asking asking, int depth) {
            asking.enter(24);
            return 2 * super.markBy(asking, depth);
        }
    }

    private static class Stone extends Thing {
        static final int KIND = 4;

        Stone(int number, int weight) {
            super(number, weight);
        }

        int kindNumber() {
            return KIND;
        }

        int sizeBy(Asking asking, int depth) {
            asking.enter(13);
            return super.sizeBy(asking, depth) - 100;
        }

        int markBy(Asking asking, int depth) {
            asking.enter(23);
            int lent = super.markBy(asking, depth);
            return depth < Asking.DEEPEST ? lent - sizeBy(asking, depth + 1) : lent;
        }
    }

    private static final class Whale extends Stone {
        static final int KIND = 5, TIMES_HEAVIER = 10;

        Whale(int number, int weight) {
            super(number, weight);
        }

        int kindNumber() {
            return KIND;
        }

        int heavyWith(int ofWeight, int onDay) {
            return TIMES_HEAVIER * ofWeight;
        }

        int sizeBy(Asking asking, int depth) {
            asking.enter(14);
            return 2 * super.sizeBy(asking, depth);
        }
    }
}
