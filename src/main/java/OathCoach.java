import java.util.Arrays;

/** A coach that goes, place by place, where the weightiest promise pulls it. */
public final class OathCoach {
    public static final int NONE = -1000000, BAD = -1000001, STATE = -1000002, FULL = -1000003;

    private static final int FINDING = -1000010, FAULT = -1000100;
    private static final int MISSING_ROW = 1, NO_SUCH_ITEM = 2, OTHER_KIND = 3, BELOW_NONE = 4, TWO_LANES = 5;

    private static final int ROWS = 8, LANES = 3, MOST_ITEMS = 40;
    private static final int PLACES = 10, MOST_WEIGHT = 20, MOST_DUE = 60, MOST_OATHS = 7;
    private static final int MOST_HOUR = 999, MOST_HOURS_AT_ONCE = 24, MOST_ACTS = 24, IMAGES = 2;
    private static final int FAR = 60, NEAR = 24, TOLD = 12, REST_HOURS = 10;
    private static final int AS_IT_IS = 128, MOST_SEED = 999999;
    private static final long DRAW_FACTOR = 16807L, DRAW_MODULUS = 2147483647L;

    private static final int OPEN = 0, KEPT = 1, BROKEN = 2, BOUGHT = 3;
    private static final int OATH = 1, MOTHER = 2, LETTER = 3, LIE = 4, VOW = 5, KINDS = 6;
    private static final String SORTS = "omlfv";
    private static final int[] KIND_ABOVE = {0, 0, 1, 1, 0, 4};

    private static final int SIZE = 0, MARK = 1, MOST_TRACED = 16, DEEPEST_ASK = 12;
    /** By KIND the BODY that is told for it; 0: none is told, the KIND above it is looked at. */
    private static final int[] SIZE_BODY = {10, 11, 12, 0, 13, 14};
    private static final int[] MARK_BODY = {20, 21, 24, 22, 23, 0};

    private final Row[] rows = new Row[ROWS];
    private final Tape tape = new Tape();
    private final Route route = new Route();
    /** All that is foretold happens to this one, so that the ROUTE itself stays as it is. */
    private final Route trial = new Route();
    private final History history = new History();
    private final Route[] images = new Route[IMAGES];
    private final int[] traced = new int[MOST_TRACED];
    private int tracedCount = 0;
    private int latestFault = 0;
    private int latestFinding = 0;

    public OathCoach() {
        for (int r = 0; r < ROWS; r++) {
            rows[r] = new Row();
        }
    }

    // ---- rows

    public int row(int row, int lane, int n) {
        if (!isRow(row) || lane < 0 || lane >= LANES || n > MOST_ITEMS) {
            return BAD;
        }
        if (n < 0) {
            return found(BELOW_NONE);
        }
        rows[row].begin(lane, n);
        return unfound(n);
    }

    public int set(int row, int i, int v) {
        if (!isRow(row)) {
            return BAD;
        }
        int finding = findingOf(row, i, 1);
        if (finding != 0) {
            return found(finding);
        }
        return unfound(rows[row].put(i, v));
    }

    public int copy(int a, int i, int b, int j, int n) {
        if (!isRow(a) || !isRow(b)) {
            return BAD;
        }
        Row from = rows[a];
        Row to = rows[b];
        if (from.missing || to.missing) {
            return found(MISSING_ROW);
        }
        if (from.lane != to.lane) {
            return found(TWO_LANES);
        }
        if (!from.has(i, n) || !to.has(j, n)) {
            return found(NO_SUCH_ITEM);
        }
        System.arraycopy(from.items, i, to.items, j, n);
        return unfound(n);
    }

    public int drop(int row) {
        if (!isRow(row)) {
            return BAD;
        }
        if (rows[row].missing) {
            return found(MISSING_ROW);
        }
        rows[row].missing = true;
        return unfound(rows[row].size);
    }

    // ---- what is told

    public int feed(int letter) {
        if (letter < 0 || letter > 255) {
            return BAD;
        }
        if (tape.isFull()) {
            return FULL;
        }
        tape.add(letter);
        return tape.size;
    }

    public int route() {
        int faultNumber = tape.readInto(trial);
        int faultPlace = tape.at;
        tape.size = 0;
        if (faultNumber != 0) {
            latestFault = faultNumber;
            return FAULT - faultPlace;
        }
        route.become(trial);
        history.forgetAll();
        return route.oaths;
    }

    public int fault() {
        return latestFault;
    }

    public int undo() {
        if (!history.takeBack(route)) {
            return STATE;
        }
        return history.size;
    }

    // ---- what is done

    public int hours(int n) {
        if (noRoute()) {
            return STATE;
        }
        if (n < 1 || n > MOST_HOURS_AT_ONCE) {
            return BAD;
        }
        if (route.hour + n > MOST_HOUR) {
            return FULL;
        }
        for (int h = 0; h < n; h++) {
            history.remember(route);
            route.passHour();
        }
        return route.at;
    }

    public int swear(int oath, int place, int weight) {
        if (!isOath(oath) || !isPlace(place) || weight < 1 || weight > MOST_WEIGHT) {
            return BAD;
        }
        history.remember(route);
        route.openTo(oath, place, weight);
        return route.pullOf(oath);
    }

    public int buy(int oath) {
        if (!isOath(oath)) {
            return BAD;
        }
        if (route.came[oath] != OPEN) {
            return STATE;
        }
        history.remember(route);
        route.came[oath] = BOUGHT;
        return Integer.bitCount(route.openBits());
    }

    public int snow(int place, int on) {
        if (noRoute()) {
            return STATE;
        }
        if (!isPlace(place) || !isEither(on)) {
            return BAD;
        }
        if ((route.snow >> place & 1) == on) {
            return STATE;
        }
        history.remember(route);
        route.snow ^= 1 << place;
        return route.snow;
    }

    public int oath(int oath, int what) {
        if (!isOath(oath)) {
            return BAD;
        }
        switch (what) {
            case 0:
                return route.place[oath];
            case 1:
                return route.weight[oath];
            case 2:
                return route.due[oath];
            case 3:
                return route.came[oath];
            case 4:
                return route.pullOf(oath);
            default:
                return BAD;
        }
    }

    public int coach(int what) {
        if (noRoute()) {
            return STATE;
        }
        switch (what) {
            case 0:
                return route.at;
            case 1:
                return route.puller(0);
            case 2:
                return route.openBits();
            case 3:
                return route.snow;
            case 4:
                return route.home;
            default:
                return BAD;
        }
    }

    // ---- foretold

    public int ahead(int n) {
        if (noRoute()) {
            return STATE;
        }
        if (!isWithin(n, 0, FAR)) {
            return BAD;
        }
        trial.become(route);
        trial.passHours(n);
        return trial.at;
    }

    public int comesTo(int oath, int n) {
        if (!isOath(oath) || !isWithin(n, 0, FAR)) {
            return BAD;
        }
        trial.become(route);
        trial.passHours(n);
        return trial.came[oath];
    }

    public int kept(int oath) {
        if (!isOath(oath)) {
            return BAD;
        }
        trial.become(route);
        for (int h = 0; h <= FAR; h++) {
            if (trial.came[oath] != OPEN) {
                return h;
            }
            trial.passHour();
        }
        return NONE;
    }

    public int past(int place) {
        if (noRoute()) {
            return STATE;
        }
        if (!isPlace(place)) {
            return BAD;
        }
        trial.become(route);
        for (int h = 0; h <= FAR; h++) {
            if (trial.at == place) {
                return h;
            }
            trial.passHour();
        }
        return NONE;
    }

    public int visits(int n) {
        if (noRoute()) {
            return STATE;
        }
        if (!isWithin(n, 0, FAR)) {
            return BAD;
        }
        trial.become(route);
        int seen = 1 << trial.at;
        for (int h = 0; h < n; h++) {
            trial.passHour();
            seen |= 1 << trial.at;
        }
        return seen;
    }

    public int rest() {
        if (noRoute()) {
            return STATE;
        }
        trial.become(route);
        int since = 0;
        for (int h = 1; h <= FAR + REST_HOURS; h++) {
            int before = trial.at;
            trial.passHour();
            if (trial.at != before) {
                since = h;
            }
            if (h - since == REST_HOURS) {
                return since;
            }
        }
        return NONE;
    }

    public int least(int oath, int place, int n) {
        if (!isOath(oath) || !isPlace(place) || !isWithin(n, 1, NEAR)) {
            return BAD;
        }
        for (int weight = 1; weight <= MOST_WEIGHT; weight++) {
            trial.become(route);
            trial.openTo(oath, place, weight);
            trial.passHours(n);
            if (trial.at == trial.home) {
                return weight;
            }
        }
        return NONE;
    }

    public int buyOff(int place, int n, int what) {
        if (noRoute()) {
            return STATE;
        }
        if (!isPlace(place) || !isWithin(n, 1, NEAR) || !isEither(what)) {
            return BAD;
        }
        int open = route.openBits();
        int best = NONE;
        int fewest = MOST_OATHS + 1;
        for (int bought = 0; bought <= open; bought++) {
            int many = Integer.bitCount(bought);
            if ((bought & open) == bought && many < fewest && placeIfBought(bought, n) == place) {
                best = bought;
                fewest = many;
            }
        }
        return what == 1 || best == NONE ? best : fewest;
    }

    public int holds(int n) {
        if (noRoute()) {
            return STATE;
        }
        if (!isWithin(n, 1, FAR)) {
            return BAD;
        }
        int open = route.openBits();
        int asItIs = placeIfBought(0, n);
        int holding = 0;
        for (int oath = 0; oath < route.oaths; oath++) {
            int alone = 1 << oath;
            if ((open & alone) != 0 && placeIfBought(alone, n) != asItIs) {
                holding |= alone;
            }
        }
        return holding;
    }

    public int broke(int row, int i, int n) {
        if (noRoute()) {
            return STATE;
        }
        if (!isRow(row) || !isWithin(n, 1, TOLD)) {
            return BAD;
        }
        int finding = findingOf(row, i, n);
        if (finding != 0) {
            return found(finding);
        }
        trial.become(route);
        int fitting = trial.goesAlong(rows[row], i, n) ? AS_IT_IS : 0;
        for (int oath = 0; oath < route.oaths; oath++) {
            if (route.came[oath] == OPEN) {
                trial.become(route);
                trial.came[oath] = BOUGHT;
                fitting |= trial.goesAlong(rows[row], i, n) ? 1 << oath : 0;
            }
        }
        return unfound(fitting);
    }

    public int sworn(int oath, int row, int i, int n) {
        if (!isOath(oath) || !isRow(row) || !isWithin(n, 1, TOLD)) {
            return BAD;
        }
        int finding = findingOf(row, i, n);
        if (finding != 0) {
            return found(finding);
        }
        if (route.came[oath] != OPEN) {
            return STATE;
        }
        int fitting = 0;
        for (int place = 0; place < PLACES; place++) {
            trial.become(route);
            trial.place[oath] = place;
            fitting |= trial.goesAlong(rows[row], i, n) ? 1 << place : 0;
        }
        return unfound(fitting);
    }

    public int who(int oath, int row, int i, int n) {
        if (!isOath(oath) || !isRow(row) || !isWithin(n, 1, TOLD)) {
            return BAD;
        }
        int finding = findingOf(row, i, n);
        if (finding != 0) {
            return found(finding);
        }
        int fitting = 0;
        for (int kind = OATH; kind < KINDS; kind++) {
            trial.become(route);
            trial.kind[oath] = kind;
            fitting |= trial.goesAlong(rows[row], i, n) ? 1 << kind : 0;
        }
        return unfound(fitting);
    }

    public int late(int what) {
        if (noRoute()) {
            return STATE;
        }
        if (!isEither(what)) {
            return BAD;
        }
        int which = NONE;
        int most = 0;
        for (int oath = 0; oath < route.oaths; oath++) {
            int lateness = route.hour - route.due[oath];
            if (route.came[oath] == OPEN && lateness > most) {
                which = oath;
                most = lateness;
            }
        }
        return what == 1 || which == NONE ? which : most;
    }

    public long lies(int place, int p, int what) {
        if (noRoute()) {
            return STATE;
        }
        if (!isPlace(place) || !isWithin(p, 0, 10) || !isEither(what)) {
            return BAD;
        }
        int open = route.openBits();
        int openCount = Integer.bitCount(open);
        long above = 0;
        for (int silent = 0; silent <= open; silent++) {
            if ((silent & open) == silent && route.placeNext(silent) == place) {
                int silentCount = Integer.bitCount(silent);
                above += power(p, silentCount) * power(10 - p, openCount - silentCount);
            }
        }
        long below = power(10, openCount);
        long common = commonDivisor(below, above);
        if (common < 1) {
            return BAD;
        }
        return what == 0 ? above / common : below / common;
    }

    public int order(int k) {
        if (noRoute()) {
            return STATE;
        }
        if (k < 0) {
            return BAD;
        }
        trial.become(route);
        int left = k;
        for (int h = 0; h < FAR; h++) {
            int met = trial.passHour();
            int many = Integer.bitCount(met);
            if (left < many) {
                return bitAt(met, left);
            }
            left -= many;
        }
        return NONE;
    }

    public int drawn(int n, int seed, int what) {
        if (noRoute()) {
            return STATE;
        }
        if (!isWithin(n, 0, FAR) || !isWithin(seed, 1, MOST_SEED) || !isEither(what)) {
            return BAD;
        }
        trial.become(route);
        long x = seed;
        for (int h = 0; h < n; h++) {
            x = x * DRAW_FACTOR % DRAW_MODULUS;
            if (x % 3 == 0) {
                trial.openByDraw(x);
            }
            trial.passHour();
        }
        return what == 0 ? trial.at : Integer.bitCount(trial.openBits());
    }

    public int image(int k) {
        if (!isWithin(k, 0, IMAGES - 1)) {
            return BAD;
        }
        if (noRoute()) {
            return STATE;
        }
        if (images[k] == null) {
            images[k] = new Route();
        }
        images[k].become(route);
        return 1;
    }

    public int restore(int k) {
        if (!isWithin(k, 0, IMAGES - 1)) {
            return BAD;
        }
        if (images[k] == null) {
            return STATE;
        }
        route.become(images[k]);
        history.forgetAll();
        return 1;
    }

    // ---- asked

    public int kind(int one) {
        return isOath(one) ? route.kind[one] : BAD;
    }

    public int as(int one, int kind) {
        if (!isOath(one) || !isWithin(kind, 0, KINDS - 1)) {
            return BAD;
        }
        int climbing = route.kind[one];
        for (int step = 0; step < KINDS && climbing > 0 && climbing != kind; step++) {
            climbing = KIND_ABOVE[climbing];
        }
        return climbing == kind ? unfound(one) : found(OTHER_KIND);
    }

    public int ask(int one, int what) {
        if (!isOath(one) || !isEither(what)) {
            return BAD;
        }
        tracedCount = 0;
        return askAnew(one, what, 0);
    }

    public int trace(int i) {
        return i >= 0 && i < tracedCount && i < MOST_TRACED ? traced[i] : NONE;
    }

    public int count(int what) {
        switch (what) {
            case 0:
                return countRows();
            case 1:
                return route.oaths;
            case 2:
                return route.openBits();
            case 3:
                return route.hour;
            case 4:
                return route.timesKept;
            case 5:
                return route.timesBroken;
            case 6:
                return history.size;
            case 7:
                return tape.size;
            default:
                return BAD;
        }
    }

    public int status() {
        return latestFinding;
    }

    // ---- what the calls share

    private static boolean isWithin(int v, int least, int most) {
        return v >= least && v <= most;
    }

    private static boolean isEither(int v) {
        return v == 0 || v == 1;
    }

    private static boolean isRow(int row) {
        return isWithin(row, 0, ROWS - 1);
    }

    private static boolean isPlace(int place) {
        return isWithin(place, 0, PLACES - 1);
    }

    private boolean isOath(int oath) {
        return oath >= 0 && oath < route.oaths;
    }

    /** A ROUTE that was read has one OATH at least. */
    private boolean noRoute() {
        return route.oaths == 0;
    }

    private int found(int finding) {
        latestFinding = finding;
        return FINDING - finding;
    }

    private int unfound(int answer) {
        latestFinding = 0;
        return answer;
    }

    private int findingOf(int row, int i, int n) {
        if (rows[row].missing) {
            return MISSING_ROW;
        }
        return rows[row].has(i, n) ? 0 : NO_SUCH_ITEM;
    }

    private int countRows() {
        int there = 0;
        for (int r = 0; r < ROWS; r++) {
            there += rows[r].missing ? 0 : 1;
        }
        return there;
    }

    private int placeIfBought(int bought, int n) {
        trial.become(route);
        for (int oath = 0; oath < trial.oaths; oath++) {
            if ((bought >> oath & 1) != 0) {
                trial.came[oath] = BOUGHT;
            }
        }
        trial.passHours(n);
        return trial.at;
    }

    private static int bitAt(int bits, int k) {
        int left = k;
        for (int b = 0; b < MOST_OATHS; b++) {
            if ((bits >> b & 1) != 0) {
                if (left == 0) {
                    return b;
                }
                left--;
            }
        }
        return NONE;
    }

    private static long power(int base, int exponent) {
        long product = 1;
        for (int e = 0; e < exponent; e++) {
            product *= base;
        }
        return product;
    }

    private static long commonDivisor(long a, long b) {
        long larger = a;
        long smaller = b;
        for (int step = 0; step < 100 && smaller != 0; step++) {
            long rest = larger % smaller;
            larger = smaller;
            smaller = rest;
        }
        return larger;
    }

    private int askAnew(int oath, int what, int depth) {
        int kind = route.kind[oath];
        for (int step = 0; step < KINDS && kind > 0 && toldBody(kind, what) == 0; step++) {
            kind = KIND_ABOVE[kind];
        }
        return runBody(toldBody(kind, what), oath, depth);
    }

    private static int toldBody(int kind, int what) {
        return what == SIZE ? SIZE_BODY[kind] : MARK_BODY[kind];
    }

    private int runBody(int body, int oath, int depth) {
        if (depth > DEEPEST_ASK) {
            return BAD;
        }
        if (tracedCount < MOST_TRACED) {
            traced[tracedCount++] = body;
        }
        int deeper = depth + 1;
        switch (body) {
            case 10:
                return route.weight[oath];
            case 11:
                return runBody(10, oath, deeper) + askAnew(oath, MARK, deeper);
            case 12:
                return -runBody(11, oath, deeper);
            case 13:
                return runBody(10, oath, deeper) - 100;
            case 14:
                return 2 * runBody(13, oath, deeper);
            case 20:
                return oath;
            case 21:
                return runBody(20, oath, deeper) + route.place[oath];
            case 22:
                return runBody(21, oath, deeper) - 1000;
            case 23:
                return runBody(20, oath, deeper) - askAnew(oath, SIZE, deeper);
            case 24:
                return 2 * runBody(21, oath, deeper);
            default:
                return BAD;
        }
    }

    /** Numbers of a LANE; the room is made once and used again by each ROW that begins here. */
    private static final class Row {
        boolean missing = true;
        int lane = 0;
        int size = 0;
        final int[] items = new int[MOST_ITEMS];

        void begin(int newLane, int newSize) {
            missing = false;
            lane = newLane;
            size = newSize;
            Arrays.fill(items, 0);
        }

        /** Written so that no sum can wrap around. */
        boolean has(int i, int n) {
            return i >= 0 && n >= 0 && i <= size && n <= size - i;
        }

        int put(int i, int v) {
            items[i] = lane == 0 ? (byte) v : lane == 1 ? (short) v : v;
            return items[i];
        }
    }

    /** The bytes that are fed, and the reading of a ROUTE from them. */
    private static final class Tape {
        static final int MOST_BYTES = 100, MOST_FIGURES = 2;
        static final int CANNOT_STAND = 1, NOT_AS_TOLD = 2, NO_ROOM = 3;

        final int[] bytes = new int[MOST_BYTES];
        int size = 0;
        int at = 0;
        int faultNumber = 0;

        boolean isFull() {
            return size >= MOST_BYTES;
        }

        void add(int letter) {
            bytes[size] = letter;
            size++;
        }

        /** 0, or the number of the FAULT, at whose TOKEN the reading stopped. */
        int readInto(Route into) {
            at = 0;
            faultNumber = 0;
            into.clear();
            readLaw(into);
            for (int k = 0; k <= MOST_OATHS && faultNumber == 0 && (k == 0 || at < size); k++) {
                readOath(into, k);
            }
            return faultNumber;
        }

        void readLaw(Route into) {
            readByte('c');
            into.at = readNumber(0, PLACES - 1);
            readByte(',');
            into.home = readNumber(0, PLACES - 1);
            readByte(';');
        }

        void readOath(Route into, int k) {
            int kind = readSort(k);
            int place = readNumber(0, PLACES - 1);
            readByte(',');
            int weight = readNumber(1, MOST_WEIGHT);
            readByte(',');
            int due = readNumber(1, MOST_DUE);
            readByte(';');
            if (faultNumber == 0) {
                into.addOath(kind, place, weight, due);
            }
        }

        int readSort(int k) {
            int kind = at < size ? SORTS.indexOf((char) bytes[at]) + OATH : 0;
            if (kind < OATH) {
                return stop(CANNOT_STAND);
            }
            if (k >= MOST_OATHS) {
                return stop(NO_ROOM);
            }
            at++;
            return kind;
        }

        void readByte(char wanted) {
            if (faultNumber != 0) {
                return;
            }
            if (at < size && bytes[at] == wanted) {
                at++;
            } else {
                stop(CANNOT_STAND);
            }
        }

        int readNumber(int least, int most) {
            if (faultNumber != 0) {
                return 0;
            }
            int end = at;
            int number = 0;
            while (end < size && isFigure(bytes[end])) {
                number = Math.min(number * 10 + bytes[end] - '0', 100);
                end++;
            }
            if (end == at || end - at > MOST_FIGURES) {
                return stop(CANNOT_STAND);
            }
            if (number < least || number > most) {
                return stop(NOT_AS_TOLD);
            }
            at = end;
            return number;
        }

        static boolean isFigure(int b) {
            return b >= '0' && b <= '9';
        }

        int stop(int number) {
            faultNumber = number;
            return 0;
        }
    }

    /** Where the coach is, its OATHS, and how an HOUR goes by; no OATHS: no ROUTE. */
    private static final class Route {
        int at = 0;
        int home = 0;
        int hour = 0;
        int snow = 0;
        int oaths = 0;
        int timesKept = 0;
        int timesBroken = 0;
        final int[] kind = new int[MOST_OATHS];
        final int[] place = new int[MOST_OATHS];
        final int[] weight = new int[MOST_OATHS];
        final int[] due = new int[MOST_OATHS];
        final int[] came = new int[MOST_OATHS];

        void clear() {
            at = 0;
            home = 0;
            hour = 0;
            snow = 0;
            oaths = 0;
            timesKept = 0;
            timesBroken = 0;
        }

        void become(Route other) {
            at = other.at;
            home = other.home;
            hour = other.hour;
            snow = other.snow;
            oaths = other.oaths;
            timesKept = other.timesKept;
            timesBroken = other.timesBroken;
            System.arraycopy(other.kind, 0, kind, 0, MOST_OATHS);
            System.arraycopy(other.place, 0, place, 0, MOST_OATHS);
            System.arraycopy(other.weight, 0, weight, 0, MOST_OATHS);
            System.arraycopy(other.due, 0, due, 0, MOST_OATHS);
            System.arraycopy(other.came, 0, came, 0, MOST_OATHS);
        }

        void addOath(int newKind, int newPlace, int newWeight, int newDue) {
            if (oaths >= MOST_OATHS) {
                return;
            }
            kind[oaths] = newKind;
            due[oaths] = newDue;
            openTo(oaths, newPlace, newWeight);
            oaths++;
        }

        void openTo(int oath, int newPlace, int newWeight) {
            place[oath] = newPlace;
            weight[oath] = newWeight;
            came[oath] = OPEN;
        }

        void openByDraw(long x) {
            if (oaths > 0 && x >= 0) {
                int oath = (int) (x % oaths);
                openTo(oath, (int) (x % PLACES), weight[oath]);
            }
        }

        int openBits() {
            int bits = 0;
            for (int oath = 0; oath < oaths; oath++) {
                if (came[oath] == OPEN) {
                    bits |= 1 << oath;
                }
            }
            return bits;
        }

        int pullOf(int oath) {
            if (came[oath] != OPEN || (snow >> place[oath] & 1) != 0) {
                return 0;
            }
            int urgency = hour >= due[oath] ? 10 : 0;
            switch (kind[oath]) {
                case OATH:
                    return weight[oath] + urgency;
                case MOTHER:
                    return 3 * weight[oath] + urgency;
                case LETTER:
                    return weight[oath] / 2 + urgency;
                case VOW:
                    return hour % 2 == 0 ? weight[oath] + 5 : weight[oath];
                default:
                    return weight[oath] + 5;
            }
        }

        /** The OATH that PULLS most while those of the bits do not. */
        int puller(int silent) {
            int best = NONE;
            int most = 0;
            for (int oath = 0; oath < oaths; oath++) {
                int pull = (silent >> oath & 1) != 0 ? 0 : pullOf(oath);
                if (pull > most) {
                    best = oath;
                    most = pull;
                }
            }
            return best;
        }

        int placeNext(int silent) {
            int oath = puller(silent);
            return oath < 0 ? at : at + Integer.signum(place[oath] - at);
        }

        /** The OATHS (bits) that were KEPT or BROKEN in this HOUR. */
        int passHour() {
            at = placeNext(0);
            int met = meet();
            hour++;
            reopenVows();
            return met;
        }

        void passHours(int n) {
            for (int h = 0; h < n; h++) {
                passHour();
            }
        }

        int meet() {
            int met = 0;
            for (int oath = 0; oath < oaths; oath++) {
                if (came[oath] == OPEN && place[oath] == at) {
                    met |= 1 << oath;
                    if (kind[oath] == LIE) {
                        came[oath] = BROKEN;
                        timesBroken++;
                    } else {
                        came[oath] = KEPT;
                        timesKept++;
                    }
                }
            }
            return met;
        }

        void reopenVows() {
            for (int oath = 0; oath < oaths; oath++) {
                int span = weight[oath] + 1;
                if (kind[oath] == VOW && came[oath] == KEPT && span > 0 && hour % span == 0) {
                    came[oath] = OPEN;
                }
            }
        }

        boolean goesAlong(Row told, int i, int n) {
            for (int h = 0; h < n; h++) {
                passHour();
                if (at != told.items[i + h]) {
                    return false;
                }
            }
            return true;
        }
    }

    /** The ROUTE as it was ahead of each of the latest ACTS; a ring, so that the oldest is forgotten. */
    private static final class History {
        final Route[] before = new Route[MOST_ACTS];
        int oldest = 0;
        int size = 0;

        void remember(Route now) {
            int slot = (oldest + size) % MOST_ACTS;
            if (before[slot] == null) {
                before[slot] = new Route();
            }
            before[slot].become(now);
            if (size < MOST_ACTS) {
                size++;
            } else {
                oldest = (oldest + 1) % MOST_ACTS;
            }
        }

        boolean takeBack(Route into) {
            if (size == 0) {
                return false;
            }
            size--;
            Route latest = before[(oldest + size) % MOST_ACTS];
            if (latest == null) {
                return false;
            }
            into.become(latest);
            return true;
        }

        void forgetAll() {
            oldest = 0;
            size = 0;
        }
    }
}
