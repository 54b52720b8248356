import java.math.BigInteger;
import java.util.ArrayDeque;
import java.util.ArrayList;
import java.util.Arrays;
import java.util.List;
import java.util.function.IntPredicate;
import java.util.function.UnaryOperator;
import java.util.regex.Matcher;
import java.util.regex.Pattern;

/** The document told a second time, slowly and in other ways than OathCoach does it, to hold answers against. */
final class PlainCoach {
    private record Oath(char sort, int place, int weight, int due, String came) {
        Oath to(int newPlace, int newWeight) {
            return new Oath(sort, newPlace, newWeight, due, "open");
        }

        Oath now(String newCame) {
            return new Oath(sort, place, weight, due, newCame);
        }

        Oath of(char newSort) {
            return new Oath(newSort, place, weight, due, came);
        }

        boolean open() {
            return came.equals("open");
        }
    }

    private record World(int at, int home, int hour, List<Boolean> snow, List<Oath> oaths, int kept, int broken) {
        World with(int i, UnaryOperator<Oath> change) {
            List<Oath> changed = new ArrayList<>(oaths);
            changed.set(i, change.apply(changed.get(i)));
            return new World(at, home, hour, snow, changed, kept, broken);
        }

        int bits(java.util.function.Predicate<Oath> which) {
            int bits = 0;
            for (int i = 0; i < oaths.size(); i++) {
                bits += which.test(oaths.get(i)) ? (int) Math.pow(2, i) : 0;
            }
            return bits;
        }

        int pull(int i) {
            Oath o = oaths.get(i);
            if (!o.open() || snow.get(o.place())) {
                return 0;
            }
            int base = switch (o.sort()) {
                case 'o' -> o.weight();
                case 'm' -> o.weight() * 3;
                case 'l' -> o.weight() / 2;
                case 'f' -> o.weight() + 5;
                default -> o.weight() + (hour % 2 == 0 ? 5 : 0);
            };
            return "oml".indexOf(o.sort()) >= 0 && hour >= o.due() ? base + 10 : base;
        }

        int strongest(IntPredicate speaks) {
            int best = -1;
            for (int i = oaths.size() - 1; i >= 0; i--) {
                if (speaks.test(i) && pull(i) > 0 && (best < 0 || pull(i) >= pull(best))) {
                    best = i;
                }
            }
            return best;
        }

        int next(IntPredicate speaks) {
            int best = strongest(speaks);
            if (best < 0 || oaths.get(best).place() == at) {
                return at;
            }
            return oaths.get(best).place() > at ? at + 1 : at - 1;
        }

        World hour(List<Integer> met) {
            int there = next(i -> true);
            List<Oath> later = new ArrayList<>();
            int keptNow = 0;
            int brokenNow = 0;
            for (int i = 0; i < oaths.size(); i++) {
                Oath o = oaths.get(i);
                if (o.open() && o.place() == there) {
                    met.add(i);
                    boolean lie = o.sort() == 'f';
                    keptNow += lie ? 0 : 1;
                    brokenNow += lie ? 1 : 0;
                    o = o.now(lie ? "broken" : "kept");
                }
                boolean again = o.sort() == 'v' && o.came().equals("kept") && (hour + 1) % (o.weight() + 1) == 0;
                later.add(again ? o.now("open") : o);
            }
            return new World(there, home, hour + 1, snow, later, kept + keptNow, broken + brokenNow);
        }

        World hours(int n) {
            return n == 0 ? this : hour(new ArrayList<>()).hours(n - 1);
        }

        boolean tells(int[] row, int i, int n) {
            return n == 0 || hour(new ArrayList<>()).at() == row[i]
                && hour(new ArrayList<>()).tells(row, i + 1, n - 1);
        }
    }

    private static final int NONE = -1000000, BAD = -1000001, STATE = -1000002, FULL = -1000003;
    private static final List<String> CAME = List.of("open", "kept", "broken", "bought");
    private static final String SORTS = " omlfv";

    private final int[][] rows = new int[8][];
    private final int[] lanes = new int[8];
    private final StringBuilder tape = new StringBuilder();
    private final ArrayDeque<World> before = new ArrayDeque<>();
    private final World[] images = new World[2];
    private final List<Integer> trace = new ArrayList<>();
    private World world = null;
    private int fault = 0;
    private int status = 0;

    private static boolean in(int v, int a, int b) {
        return a <= v && v <= b;
    }

    private boolean has(int oath) {
        return world != null && in(oath, 0, world.oaths().size() - 1);
    }

    private int finding(int number) {
        status = number;
        return -1000010 - number;
    }

    private int plain(int answer) {
        status = 0;
        return answer;
    }

    int row(int row, int lane, int n) {
        if (!in(row, 0, 7) || !in(lane, 0, 2) || n > 40) {
            return BAD;
        }
        if (n < 0) {
            return finding(4);
        }
        rows[row] = new int[n];
        lanes[row] = lane;
        return plain(n);
    }

    int set(int row, int i, int v) {
        if (!in(row, 0, 7)) {
            return BAD;
        }
        if (rows[row] == null) {
            return finding(1);
        }
        if (!in(i, 0, rows[row].length - 1)) {
            return finding(2);
        }
        int shift = new int[] {24, 16, 0}[lanes[row]];
        rows[row][i] = v << shift >> shift;
        return plain(rows[row][i]);
    }

    private static boolean outside(int[] row, int i, int n) {
        return i < 0 || n < 0 || (long) i + n > row.length;
    }

    int copy(int a, int i, int b, int j, int n) {
        if (!in(a, 0, 7) || !in(b, 0, 7)) {
            return BAD;
        }
        if (rows[a] == null || rows[b] == null) {
            return finding(1);
        }
        if (lanes[a] != lanes[b]) {
            return finding(5);
        }
        if (outside(rows[a], i, n) || outside(rows[b], j, n)) {
            return finding(2);
        }
        int[] ahead = rows[a].clone();
        for (int k = 0; k < n; k++) {
            rows[b][j + k] = ahead[i + k];
        }
        return plain(n);
    }

    int drop(int row) {
        if (!in(row, 0, 7)) {
            return BAD;
        }
        if (rows[row] == null) {
            return finding(1);
        }
        int had = rows[row].length;
        rows[row] = null;
        return plain(had);
    }

    int feed(int letter) {
        if (!in(letter, 0, 255)) {
            return BAD;
        }
        if (tape.length() == 100) {
            return FULL;
        }
        return tape.append((char) letter).length();
    }

    /** Tokens first, then what may stand behind what, then the numbers. */
    int route() {
        Matcher m = Pattern.compile("[0-9]+|[\\s\\S]").matcher(tape);
        List<String> tokens = new ArrayList<>();
        List<Integer> starts = new ArrayList<>();
        while (m.find()) {
            tokens.add(m.group());
            starts.add(m.start());
        }
        tokens.add("");
        starts.add(tape.length());
        tape.setLength(0);
        String law = "c9,9;";
        String oath = "s9,9,9;";
        for (int t = 0; t < tokens.size(); t++) {
            int k = t < 5 ? -1 : (t - 5) / 7;
            int part = t < 5 ? t : (t - 5) % 7;
            char due = t < 5 ? law.charAt(part) : oath.charAt(part);
            String token = tokens.get(t);
            if (token.isEmpty() && k >= 1 && part == 0) {
                return readRoute(tokens, k);
            }
            int bad = badness(token, due, k, part);
            if (bad != 0) {
                fault = bad;
                return -1000100 - starts.get(t);
            }
        }
        throw new IllegalStateException("the text has no end");
    }

    private static int badness(String token, char due, int k, int part) {
        if (due == '9') {
            if (!token.matches("[0-9]{1,2}")) {
                return 1;
            }
            int number = Integer.parseInt(token);
            int least = k >= 0 && part > 1 ? 1 : 0;
            int most = k < 0 || part == 1 ? 9 : part == 3 ? 20 : 60;
            return in(number, least, most) ? 0 : 2;
        }
        if (due == 's') {
            return !token.matches("[omlfv]") ? 1 : k == 7 ? 3 : 0;
        }
        return token.equals(String.valueOf(due)) ? 0 : 1;
    }

    private int readRoute(List<String> tokens, int n) {
        List<Oath> oaths = new ArrayList<>();
        for (int k = 0; k < n; k++) {
            List<String> told = tokens.subList(5 + 7 * k, 12 + 7 * k);
            oaths.add(new Oath(told.get(0).charAt(0), Integer.parseInt(told.get(1)), Integer.parseInt(told.get(3)),
                Integer.parseInt(told.get(5)), "open"));
        }
        world = new World(Integer.parseInt(tokens.get(1)), Integer.parseInt(tokens.get(3)), 0,
            new ArrayList<>(java.util.Collections.nCopies(10, false)), oaths, 0, 0);
        before.clear();
        return n;
    }

    int fault() {
        return fault;
    }

    private void act(World after) {
        before.addLast(world);
        if (before.size() > 24) {
            before.removeFirst();
        }
        world = after;
    }

    int undo() {
        if (before.isEmpty()) {
            return STATE;
        }
        world = before.removeLast();
        return before.size();
    }

    int hours(int n) {
        if (world == null) {
            return STATE;
        }
        if (!in(n, 1, 24)) {
            return BAD;
        }
        if (world.hour() + n > 999) {
            return FULL;
        }
        for (int i = 0; i < n; i++) {
            act(world.hours(1));
        }
        return world.at();
    }

    int swear(int oath, int place, int weight) {
        if (!has(oath) || !in(place, 0, 9) || !in(weight, 1, 20)) {
            return BAD;
        }
        act(world.with(oath, o -> o.to(place, weight)));
        return world.pull(oath);
    }

    private static World bought(World w, int oath) {
        return w.with(oath, o -> o.now("bought"));
    }

    int buy(int oath) {
        if (!has(oath)) {
            return BAD;
        }
        if (!world.oaths().get(oath).open()) {
            return STATE;
        }
        act(bought(world, oath));
        return (int) world.oaths().stream().filter(Oath::open).count();
    }

    private int snowBits() {
        int bits = 0;
        for (int p = 9; p >= 0; p--) {
            bits = bits * 2 + (world.snow().get(p) ? 1 : 0);
        }
        return bits;
    }

    int snow(int place, int on) {
        if (world == null) {
            return STATE;
        }
        if (!in(place, 0, 9) || !in(on, 0, 1)) {
            return BAD;
        }
        if (world.snow().get(place) == (on == 1)) {
            return STATE;
        }
        List<Boolean> snow = new ArrayList<>(world.snow());
        snow.set(place, on == 1);
        act(new World(world.at(), world.home(), world.hour(), snow, world.oaths(), world.kept(), world.broken()));
        return snowBits();
    }

    int oath(int oath, int what) {
        if (!has(oath) || !in(what, 0, 4)) {
            return BAD;
        }
        Oath o = world.oaths().get(oath);
        return new int[] {o.place(), o.weight(), o.due(), CAME.indexOf(o.came()), world.pull(oath)}[what];
    }

    int coach(int what) {
        if (world == null) {
            return STATE;
        }
        if (!in(what, 0, 4)) {
            return BAD;
        }
        int puller = world.strongest(i -> true);
        return new int[] {world.at(), puller < 0 ? NONE : puller, world.bits(Oath::open), snowBits(),
            world.home()}[what];
    }

    int ahead(int n) {
        return world == null ? STATE : !in(n, 0, 60) ? BAD : world.hours(n).at();
    }

    int comesTo(int oath, int n) {
        return !has(oath) || !in(n, 0, 60) ? BAD : CAME.indexOf(world.hours(n).oaths().get(oath).came());
    }

    int kept(int oath) {
        if (!has(oath)) {
            return BAD;
        }
        for (int n = 0; n <= 60; n++) {
            if (!world.hours(n).oaths().get(oath).open()) {
                return n;
            }
        }
        return NONE;
    }

    int past(int place) {
        if (world == null) {
            return STATE;
        }
        if (!in(place, 0, 9)) {
            return BAD;
        }
        for (int n = 0; n <= 60; n++) {
            if (world.hours(n).at() == place) {
                return n;
            }
        }
        return NONE;
    }

    int visits(int n) {
        if (world == null) {
            return STATE;
        }
        if (!in(n, 0, 60)) {
            return BAD;
        }
        int bits = 0;
        for (int p = 0; p < 10; p++) {
            int first = past(p);
            bits += first >= 0 && first <= n ? 1 << p : 0;
        }
        return bits;
    }

    int rest() {
        if (world == null) {
            return STATE;
        }
        int[] at = new int[71];
        for (int n = 0; n <= 70; n++) {
            at[n] = world.hours(n).at();
        }
        for (int n = 0; n <= 60; n++) {
            if (Arrays.stream(at, n, n + 11).distinct().count() == 1) {
                return n;
            }
        }
        return NONE;
    }

    int least(int oath, int place, int n) {
        if (!has(oath) || !in(place, 0, 9) || !in(n, 1, 24)) {
            return BAD;
        }
        for (int w = 1; w <= 20; w++) {
            int weight = w;
            if (world.with(oath, o -> o.to(place, weight)).hours(n).at() == world.home()) {
                return w;
            }
        }
        return NONE;
    }

    int buyOff(int place, int n, int what) {
        if (world == null) {
            return STATE;
        }
        if (!in(place, 0, 9) || !in(n, 1, 24) || !in(what, 0, 1)) {
            return BAD;
        }
        int open = world.bits(Oath::open);
        for (int many = 0; many <= 7; many++) {
            for (int set = 0; set < 128; set++) {
                if (Integer.bitCount(set) == many && (set & ~open) == 0 && withoutThese(set).hours(n).at() == place) {
                    return what == 0 ? many : set;
                }
            }
        }
        return NONE;
    }

    private World withoutThese(int set) {
        World w = world;
        for (int i = 0; i < 7; i++) {
            w = (set & 1 << i) != 0 ? bought(w, i) : w;
        }
        return w;
    }

    int holds(int n) {
        if (world == null) {
            return STATE;
        }
        if (!in(n, 1, 60)) {
            return BAD;
        }
        int bits = 0;
        for (int i = 0; i < world.oaths().size(); i++) {
            boolean elsewhere = bought(world, i).hours(n).at() != world.hours(n).at();
            bits += world.oaths().get(i).open() && elsewhere ? 1 << i : 0;
        }
        return bits;
    }

    int broke(int row, int i, int n) {
        if (world == null) {
            return STATE;
        }
        if (!in(row, 0, 7) || !in(n, 1, 12)) {
            return BAD;
        }
        if (rows[row] == null || outside(rows[row], i, n)) {
            return finding(rows[row] == null ? 1 : 2);
        }
        int bits = world.tells(rows[row], i, n) ? 128 : 0;
        for (int k = 0; k < world.oaths().size(); k++) {
            boolean open = world.oaths().get(k).open();
            bits += open && bought(world, k).tells(rows[row], i, n) ? 1 << k : 0;
        }
        return plain(bits);
    }

    int sworn(int oath, int row, int i, int n) {
        if (!has(oath) || !in(row, 0, 7) || !in(n, 1, 12)) {
            return BAD;
        }
        if (rows[row] == null || outside(rows[row], i, n)) {
            return finding(rows[row] == null ? 1 : 2);
        }
        if (!world.oaths().get(oath).open()) {
            return STATE;
        }
        int bits = 0;
        for (int p = 0; p < 10; p++) {
            int place = p;
            bits += world.with(oath, o -> o.to(place, o.weight())).tells(rows[row], i, n) ? 1 << p : 0;
        }
        return plain(bits);
    }

    int who(int oath, int row, int i, int n) {
        if (!has(oath) || !in(row, 0, 7) || !in(n, 1, 12)) {
            return BAD;
        }
        if (rows[row] == null || outside(rows[row], i, n)) {
            return finding(rows[row] == null ? 1 : 2);
        }
        int bits = 0;
        for (int k = 1; k <= 5; k++) {
            char sort = SORTS.charAt(k);
            bits += world.with(oath, o -> o.of(sort)).tells(rows[row], i, n) ? 1 << k : 0;
        }
        return plain(bits);
    }

    int late(int what) {
        if (world == null) {
            return STATE;
        }
        if (!in(what, 0, 1)) {
            return BAD;
        }
        for (int by = 999; by >= 1; by--) {
            for (int i = 0; i < world.oaths().size(); i++) {
                Oath o = world.oaths().get(i);
                if (o.open() && world.hour() - o.due() == by) {
                    return what == 0 ? by : i;
                }
            }
        }
        return NONE;
    }

    /** Each of the 10 to the power of n cases would be too many: oath by oath, the set of the silent grows. */
    private BigInteger cases(int i, int silent, int place, int p) {
        if (i == world.oaths().size()) {
            return world.next(k -> (silent >> k) % 2 == 0) == place ? BigInteger.ONE : BigInteger.ZERO;
        }
        if (!world.oaths().get(i).open()) {
            return cases(i + 1, silent, place, p);
        }
        return cases(i + 1, silent + (1 << i), place, p).multiply(BigInteger.valueOf(p))
            .add(cases(i + 1, silent, place, p).multiply(BigInteger.valueOf(10 - p)));
    }

    long lies(int place, int p, int what) {
        if (world == null) {
            return STATE;
        }
        if (!in(place, 0, 9) || !in(p, 0, 10) || !in(what, 0, 1)) {
            return BAD;
        }
        BigInteger above = cases(0, 0, place, p);
        BigInteger below = BigInteger.TEN.pow((int) world.oaths().stream().filter(Oath::open).count());
        BigInteger common = above.gcd(below);
        return (what == 0 ? above : below).divide(common).longValueExact();
    }

    int order(int k) {
        if (world == null) {
            return STATE;
        }
        if (k < 0) {
            return BAD;
        }
        List<Integer> met = new ArrayList<>();
        World w = world;
        for (int h = 0; h < 60; h++) {
            w = w.hour(met);
        }
        return k < met.size() ? met.get(k) : NONE;
    }

    int drawn(int n, int seed, int what) {
        if (world == null) {
            return STATE;
        }
        if (!in(n, 0, 60) || !in(seed, 1, 999999) || !in(what, 0, 1)) {
            return BAD;
        }
        World w = world;
        BigInteger x = BigInteger.valueOf(seed);
        for (int h = 0; h < n; h++) {
            x = x.multiply(BigInteger.valueOf(16807)).mod(BigInteger.valueOf(2147483647));
            int drawn = x.intValueExact();
            if (drawn % 3 == 0) {
                w = w.with(drawn % w.oaths().size(), o -> o.to(drawn % 10, o.weight()));
            }
            w = w.hours(1);
        }
        return what == 0 ? w.at() : (int) w.oaths().stream().filter(Oath::open).count();
    }

    int image(int k) {
        if (!in(k, 0, 1)) {
            return BAD;
        }
        if (world == null) {
            return STATE;
        }
        images[k] = world;
        return 1;
    }

    int restore(int k) {
        if (!in(k, 0, 1)) {
            return BAD;
        }
        if (images[k] == null) {
            return STATE;
        }
        world = images[k];
        before.clear();
        return 1;
    }

    private static class Promise {
        final PlainCoach in;
        final int number;

        Promise(PlainCoach in, int number) {
            this.in = in;
            this.number = number;
        }

        int leave(int body) {
            if (in.trace.size() < 16) {
                in.trace.add(body);
            }
            return 0;
        }

        Oath told() {
            return in.world.oaths().get(number);
        }

        int size() {
            return leave(10) + told().weight();
        }

        int mark() {
            return leave(20) + number;
        }
    }

    private static class Sworn extends Promise {
        Sworn(PlainCoach in, int number) {
            super(in, number);
        }

        @Override int size() {
            return leave(11) + super.size() + mark();
        }

        @Override int mark() {
            return leave(21) + super.mark() + told().place();
        }
    }

    private static class Mother extends Sworn {
        Mother(PlainCoach in, int number) {
            super(in, number);
        }

        @Override int size() {
            return leave(12) - super.size();
        }

        @Override int mark() {
            return leave(24) + super.mark() * 2;
        }
    }

    private static class Letter extends Sworn {
        Letter(PlainCoach in, int number) {
            super(in, number);
        }

        @Override int mark() {
            return leave(22) + super.mark() - 1000;
        }
    }

    private static class Lie extends Promise {
        Lie(PlainCoach in, int number) {
            super(in, number);
        }

        @Override int size() {
            return leave(13) + super.size() - 100;
        }

        @Override int mark() {
            return leave(23) + super.mark() - size();
        }
    }

    private static class Vow extends Lie {
        Vow(PlainCoach in, int number) {
            super(in, number);
        }

        @Override int size() {
            return leave(14) + super.size() * 2;
        }
    }

    private Promise promise(int one) {
        return switch (world.oaths().get(one).sort()) {
            case 'o' -> new Sworn(this, one);
            case 'm' -> new Mother(this, one);
            case 'l' -> new Letter(this, one);
            case 'f' -> new Lie(this, one);
            default -> new Vow(this, one);
        };
    }

    int kind(int one) {
        return has(one) ? SORTS.indexOf(world.oaths().get(one).sort()) : BAD;
    }

    int as(int one, int kind) {
        if (!has(one) || !in(kind, 0, 5)) {
            return BAD;
        }
        Class<?> wanted = List.of(Promise.class, Sworn.class, Mother.class, Letter.class, Lie.class, Vow.class).get(kind);
        return wanted.isInstance(promise(one)) ? plain(one) : finding(3);
    }

    int ask(int one, int what) {
        if (!has(one) || !in(what, 0, 1)) {
            return BAD;
        }
        trace.clear();
        return what == 0 ? promise(one).size() : promise(one).mark();
    }

    int trace(int i) {
        return in(i, 0, trace.size() - 1) ? trace.get(i) : NONE;
    }

    int count(int what) {
        if (!in(what, 0, 7)) {
            return BAD;
        }
        int there = (int) Arrays.stream(rows).filter(r -> r != null).count();
        if (what == 0 || what > 5 || world == null) {
            return what == 0 ? there : what == 6 ? before.size() : what == 7 ? tape.length() : 0;
        }
        return new int[] {0, world.oaths().size(), world.bits(Oath::open), world.hour(), world.kept(),
            world.broken()}[what];
    }

    int status() {
        return status;
    }
}
