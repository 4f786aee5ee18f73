import java.math.BigInteger;
import java.util.ArrayList;
import java.util.Arrays;
import java.util.List;
import java.util.NoSuchElementException;

/**
 * The document once more, told as plainly as it can be and with the whole Java library, for ModelTest to hold the
 * class against: everything is tried out, nothing is clever.
 */
final class Model {
    /** A fault of a text, which ends its reading. */
    private static final class Fault extends RuntimeException {
        private static final long serialVersionUID = 1L;
        private final int kind;
        private final int at;

        private Fault(int kind, int at) {
            this.kind = kind;
            this.at = at;
        }
    }

    private static final class World {
        private int month;
        private int pence;
        private final int[] good = new int[6];
        private final int[] watered = new int[6];
        private final int[] leaked = new int[6];
        private final boolean[] open = new boolean[12];
        private final int[] sold = new int[12];
        private final int[] left = new int[3];
        private final int[] dug = new int[3];

        private World copy() {
            World w = new World();
            w.month = month;
            w.pence = pence;
            System.arraycopy(good, 0, w.good, 0, 6);
            System.arraycopy(watered, 0, w.watered, 0, 6);
            System.arraycopy(leaked, 0, w.leaked, 0, 6);
            System.arraycopy(open, 0, w.open, 0, 12);
            System.arraycopy(sold, 0, w.sold, 0, 12);
            System.arraycopy(left, 0, w.left, 0, 3);
            System.arraycopy(dug, 0, w.dug, 0, 3);
            return w;
        }
    }

    private static final class Image {
        private final World world;
        private final List<World> past;

        private Image(World world, List<World> past) {
            this.world = world;
            this.past = past;
        }
    }

    private String tape = "";
    private List<int[]> places = new ArrayList<>();
    private List<int[]> wants = new ArrayList<>();
    private List<int[]> mines = new ArrayList<>();
    private List<int[]> moons = new ArrayList<>();
    private int leaks = 1;
    private int shaft = 3;
    private final String[] laws = new String[2];
    private List<int[]> book = new ArrayList<>();
    private World world = new World();
    private List<World> past = new ArrayList<>();
    private final List<Image> images = new ArrayList<>();
    private int fault = -1;
    private int refused;
    private final int[] status = new int[2];

    // ---- the texts, read from `text` at `at` ----

    private String text;
    private int at;

    private char peek() {
        while (at < text.length() && text.charAt(at) == ' ') {
            at++;
        }
        return at < text.length() ? text.charAt(at) : 0x1FFF;
    }

    private void sign(char c) {
        if (peek() != c) {
            throw new Fault(1, at);
        }
        at++;
    }

    private int number(int least, int most) {
        peek();
        int from = at;
        while (at < text.length() && text.charAt(at) >= '0' && text.charAt(at) <= '9') {
            at++;
        }
        if (from == at) {
            throw new Fault(1, at);
        }
        BigInteger n = new BigInteger(text.substring(from, at));
        if (n.compareTo(BigInteger.valueOf(least)) < 0 || n.compareTo(BigInteger.valueOf(most)) > 0) {
            throw new Fault(2, from);
        }
        return n.intValue();
    }

    private String word(String known) {
        peek();
        int from = at;
        while (at < text.length() && text.charAt(at) >= 'a' && text.charAt(at) <= 'z') {
            at++;
        }
        String found = text.substring(from, at);
        if (found.isEmpty() || !Arrays.asList(known.split(" ")).contains(found)) {
            throw new Fault(1, from);
        }
        return found;
    }

    private void begin(int n) {
        text = tape.substring(0, n);
        tape = "";
        at = 0;
        fault = -1;
    }

    int feed(int a, int b, int c, int d, int e) {
        if (tape.length() + 20 > 600) {
            return -1;
        }
        StringBuilder fed = new StringBuilder(tape);
        for (int number : new int[] {a, b, c, d, e}) {
            for (byte one : java.nio.ByteBuffer.allocate(4).putInt(number).array()) {
                fed.append((char) (one & 255));
            }
        }
        tape = fed.toString();
        return tape.length();
    }

    int coast(int n) {
        legal(n >= 0 && n <= tape.length());
        begin(n);
        List<List<int[]>> lists = new ArrayList<>();
        for (int i = 0; i < 4; i++) {
            lists.add(new ArrayList<>());
        }
        int[] settings = {1, 3};
        try {
            for (int clauses = 0; peek() != 0x1FFF; clauses++) {
                clause(lists, settings, clauses);
                sign(';');
            }
        } catch (Fault f) {
            fault = f.at;
            return f.kind - 10;
        }
        places = lists.get(0);
        wants = lists.get(1);
        mines = lists.get(2);
        moons = lists.get(3);
        leaks = settings[0];
        shaft = settings[1];
        laws[0] = null;
        laws[1] = null;
        book = new ArrayList<>();
        past = new ArrayList<>();
        images.clear();
        refused = 0;
        world = new World();
        for (int p = 0; p < places.size(); p++) {
            world.good[p] = places.get(p)[1];
            world.watered[p] = places.get(p)[2];
        }
        Arrays.fill(world.open, true);
        for (int m = 0; m < mines.size(); m++) {
            world.left[m] = mines.get(m)[1];
        }
        return places.size();
    }

    private void clause(List<List<int[]>> lists, int[] settings, int clauses) {
        peek();
        int from = at;
        String names = "place want mine moon leaks shaft";
        int which = Arrays.asList(names.split(" ")).indexOf(word(names));
        int[] most = {6, 12, 3, 3};
        if (clauses == 60 || which < 4 && lists.get(which).size() == most[which]) {
            throw new Fault(3, from);
        }
        int lastPlace = lists.get(0).size() - 1;
        if (which == 0) {
            lists.get(0).add(new int[] {number(0, 40), number(0, 99), number(0, 99), number(0, 99)});
        } else if (which == 1) {
            lists.get(1).add(new int[] {number(0, lastPlace), number(1, 12), number(0, 1), number(0, 99)});
        } else if (which == 2) {
            lists.get(2).add(new int[] {number(0, lastPlace), number(0, 400), number(0, 11)});
        } else if (which == 3) {
            int cycle = number(1, 30);
            lists.get(3).add(new int[] {cycle, number(0, cycle - 1)});
        } else {
            settings[which - 4] = number(0, which == 4 ? 8 : 99);
        }
    }

    // A law is kept as its text, and read anew for each value.
    private int[] inputs = new int[7];

    private int sum(int open) {
        int value = product(open);
        while (peek() == '+' || peek() == '-') {
            boolean plus = peek() == '+';
            at++;
            int other = product(open);
            value = plus ? value + other : value - other;
        }
        return value;
    }

    private int product(int open) {
        int value = unit(open);
        while (peek() == '*' || peek() == '/') {
            boolean times = peek() == '*';
            at++;
            long other = unit(open);
            value = (int) (times ? value * other : other == 0 ? 0 : value / other);
        }
        return value;
    }

    private int unit(int open) {
        char c = peek();
        int from = at;
        if (c >= '0' && c <= '9') {
            return number(0, 999);
        }
        if (c == '(') {
            deeper(open, from);
            at++;
            int value = sum(open + 1);
            sign(')');
            return value;
        }
        String names = "hours far good shafts left month year least most";
        String name = word(names);
        int input = Arrays.asList(names.split(" ")).indexOf(name);
        if (input < 7) {
            return inputs[input];
        }
        deeper(open, from);
        sign('[');
        int one = sum(open + 1);
        sign(',');
        int other = sum(open + 1);
        sign(']');
        return input == 7 ? Math.min(one, other) : Math.max(one, other);
    }

    private static void deeper(int open, int from) {
        if (open == 6) {
            throw new Fault(3, from);
        }
    }

    int law(int which, int n) {
        legal(which >= 0 && which <= 1 && n >= 0 && n <= tape.length() && n <= 150);
        begin(n);
        String told = text;
        try {
            sum(0);
            if (peek() != 0x1FFF) {
                throw new Fault(1, at);
            }
        } catch (Fault f) {
            fault = f.at;
            return f.kind - 10;
        }
        laws[which] = told;
        return 1;
    }

    private int arriving(int p, int q, int n, int good) {
        int far = Math.abs(places.get(p)[0] - places.get(q)[0]);
        int value = n - n * far / 40;
        if (laws[0] != null) {
            inputs = new int[] {n, far, good, 0, 0, world.month % 12, world.month / 12};
            text = laws[0];
            at = 0;
            value = sum(0);
        }
        return value < 0 ? 0 : value > n ? n : value;
    }

    private int digging(int k, int left, int month) {
        if (k == 0) {
            return 0;
        }
        int value = k * 3;
        if (laws[1] != null) {
            inputs = new int[] {0, 0, 1, k, left, month % 12, month / 12};
            text = laws[1];
            at = 0;
            value = sum(0);
        }
        return value < 0 ? 0 : value > left ? left : value;
    }

    /** Steps as rows: which, its numbers; an again is followed by what it holds, as a list. */
    private List<Object> steps(int open) {
        List<Object> found = new ArrayList<>();
        while (peek() != 0x1FFF && peek() != ']') {
            int from = at;
            String name = word("carry sell water dig month again");
            int p = places.size() - 1;
            if (name.equals("carry")) {
                int source = number(0, p);
                peek();
                int second = at;
                int target = number(0, p);
                if (target == source) {
                    throw new Fault(2, second);
                }
                found.add(new int[] {0, source, target, number(1, 99), number(0, 1)});
            } else if (name.equals("sell")) {
                found.add(new int[] {1, number(0, wants.size() - 1)});
            } else if (name.equals("water")) {
                found.add(new int[] {2, number(0, p), number(1, 99)});
            } else if (name.equals("dig")) {
                found.add(new int[] {3, number(0, mines.size() - 1), number(1, 9)});
            } else if (name.equals("month")) {
                found.add(new int[] {4});
            } else {
                deeper(open, from);
                found.add(new int[] {5, number(0, 20)});
                sign('[');
                found.add(steps(open + 1));
                sign(']');
            }
            sign(';');
        }
        return found;
    }

    private int begun;
    private int done;

    int work(int n) {
        legal(n >= 0 && n <= tape.length() && n <= 150);
        begin(n);
        if (past.size() == 16) {
            return -20;
        }
        List<Object> all;
        try {
            all = steps(0);
            if (peek() != 0x1FFF) {
                throw new Fault(1, at);
            }
        } catch (Fault f) {
            fault = f.at;
            return f.kind - 10;
        }
        past.add(world.copy());
        begun = 0;
        done = 0;
        refused = 0;
        run(all);
        return done;
    }

    @SuppressWarnings("unchecked")
    private void run(List<Object> all) {
        for (int i = 0; i < all.size(); i++) {
            if (begun == 200) {
                return;
            }
            begun++;
            int[] step = (int[]) all.get(i);
            if (step[0] == 5) {
                i++;
                for (int time = 0; time < step[1]; time++) {
                    run((List<Object>) all.get(i));
                }
            } else if (step(step)) {
                done++;
            } else {
                refused++;
            }
        }
    }

    private boolean step(int[] s) {
        World w = world;
        switch (s[0]) {
            case 0: {
                int[] kind = s[4] == 1 ? w.good : w.watered;
                if (kind[s[1]] < s[3]) {
                    return false;
                }
                kind[s[1]] -= s[3];
                kind[s[2]] = Math.min(999, kind[s[2]] + arriving(s[1], s[2], s[3], s[4]));
                return true;
            }
            case 1: {
                if (!can(s[1])) {
                    return false;
                }
                int[] want = wants.get(s[1]);
                for (int hour = 0; hour < want[1]; hour++) {
                    if (want[2] == 0 && w.watered[want[0]] > 0) {
                        w.watered[want[0]]--;
                    } else {
                        w.good[want[0]]--;
                    }
                }
                w.pence += want[3];
                w.open[s[1]] = false;
                w.sold[s[1]]++;
                return true;
            }
            case 2:
                if (w.good[s[1]] < s[2]) {
                    return false;
                }
                w.good[s[1]] -= s[2];
                w.watered[s[1]] = Math.min(999, w.watered[s[1]] + 2 * s[2]);
                return true;
            case 3: {
                if (w.month % 12 < mines.get(s[1])[2] || w.left[s[1]] == 0) {
                    return false;
                }
                int out = digging(s[2], w.left[s[1]], w.month);
                int p = mines.get(s[1])[0];
                w.pence -= s[2] * shaft;
                w.left[s[1]] -= out;
                w.dug[s[1]] += out;
                w.good[p] = Math.min(999, w.good[p] + out);
                return true;
            }
            default:
                month(w);
                return true;
        }
    }

    private void month(World w) {
        for (int p = 0; p < places.size(); p++) {
            int goodLeak = w.good[p] * leaks / 8;
            int wateredLeak = w.watered[p] * leaks / 8;
            w.leaked[p] += goodLeak + wateredLeak;
            w.good[p] = Math.min(999, w.good[p] - goodLeak + places.get(p)[3]);
            w.watered[p] -= wateredLeak;
        }
        Arrays.fill(w.open, true);
        w.month++;
    }

    int book(int n) {
        legal(n >= 0 && n <= tape.length() && n <= 100);
        begin(n);
        List<int[]> lines = new ArrayList<>();
        try {
            while (peek() != 0x1FFF) {
                int from = at;
                int p = number(0, places.size() - 1);
                for (int[] line : lines) {
                    if (line[0] == p) {
                        throw new Fault(2, from);
                    }
                }
                lines.add(new int[] {p, number(0, 99)});
                sign(';');
            }
        } catch (Fault f) {
            fault = f.at;
            return f.kind - 10;
        }
        book = lines;
        return lines.size();
    }

    int fault() {
        return fault;
    }

    int undo() {
        if (past.isEmpty()) {
            return -1;
        }
        world = past.remove(past.size() - 1);
        refused = 0;
        return past.size();
    }

    // ---- asking ----

    private void legal(boolean fine) {
        if (!fine) {
            status[1]++;
            throw new IllegalArgumentException();
        }
    }

    private void such(boolean there) {
        if (!there) {
            status[0]++;
            throw new NoSuchElementException();
        }
    }

    private void suchPlace(int p) {
        such(p >= 0 && p < places.size());
    }

    private static boolean in(int v, int least, int most) {
        return v >= least && v <= most;
    }

    int told(int what) {
        legal(in(what, 0, 9));
        return new int[] {places.size(), wants.size(), mines.size(), moons.size(), world.month, world.pence,
            Arrays.stream(world.good).sum(), Arrays.stream(world.watered).sum(), book.size(), refused}[what];
    }

    private boolean openAt(int want, int p) {
        return wants.get(want)[0] == p && world.open[want];
    }

    private int wanted(int p, int price) {
        int hours = 0;
        for (int i = 0; i < wants.size(); i++) {
            if (openAt(i, p) && wants.get(i)[3] >= price) {
                hours += wants.get(i)[1];
            }
        }
        return hours;
    }

    int place(int p, int what) {
        suchPlace(p);
        legal(in(what, 0, 5));
        return new int[] {places.get(p)[0], world.good[p], world.watered[p], places.get(p)[3], world.leaked[p],
            wanted(p, 0)}[what];
    }

    int want(int i, int what) {
        such(in(i, 0, wants.size() - 1));
        legal(in(what, 0, 5));
        return what < 4 ? wants.get(i)[what] : what == 4 ? world.open[i] ? 1 : 0 : world.sold[i];
    }

    int mine(int m, int what) {
        such(in(m, 0, mines.size() - 1));
        legal(in(what, 0, 4));
        return new int[] {mines.get(m)[0], world.left[m], mines.get(m)[2],
            world.month % 12 >= mines.get(m)[2] ? 1 : 0, world.dug[m]}[what];
    }

    int arrives(int p, int q, int n, int good) {
        suchPlace(p);
        suchPlace(q);
        legal(p != q && in(n, 0, 999) && in(good, 0, 1));
        return arriving(p, q, n, good);
    }

    int digs(int m, int k) {
        such(in(m, 0, mines.size() - 1));
        legal(in(k, 0, 9));
        return digging(k, world.left[m], world.month);
    }

    boolean can(int i) {
        such(in(i, 0, wants.size() - 1));
        int[] want = wants.get(i);
        return world.open[i] && want[1] <= world.good[want[0]] + (want[2] == 1 ? 0 : world.watered[want[0]]);
    }

    /** The best set by trying to sell each set of wants, in order: worth and bits. */
    private int[] bestSales() {
        int[] best = {-1, 0};
        World before = world;
        for (int bits = 0; bits < 1 << wants.size(); bits++) {
            world = before.copy();
            boolean all = true;
            for (int i = 0; i < wants.size() && all; i++) {
                all = (bits >> i & 1) == 0 || step(new int[] {1, i});
            }
            if (all && world.pence - before.pence > best[0]) {
                best = new int[] {world.pence - before.pence, bits};
            }
        }
        world = before;
        return best;
    }

    int sales(int what) {
        legal(in(what, 0, 1));
        return bestSales()[what];
    }

    int more(int p, int n) {
        suchPlace(p);
        legal(in(n, 0, 99));
        world.good[p] += n;
        int worth = bestSales()[0];
        world.good[p] -= n;
        return worth;
    }

    int brings(int p, int q, int what) {
        suchPlace(p);
        suchPlace(q);
        legal(p != q && in(what, 0, 1));
        int[] best = {0, -1};
        World before = world;
        for (int n = 0; n <= before.good[p]; n++) {
            world = before.copy();
            world.good[p] -= n;
            world.good[q] = Math.min(999, world.good[q] + arriving(p, q, n, 1));
            int worth = bestSales()[0];
            if (worth > best[1]) {
                best = new int[] {n, worth};
            }
        }
        world = before;
        return best[what];
    }

    int price(int p) {
        suchPlace(p);
        for (int price = 0; price <= 100; price++) {
            if (wanted(p, price) <= world.good[p] + world.watered[p]) {
                return price;
            }
        }
        throw new IllegalStateException();
    }

    int corner(int p, int v) {
        suchPlace(p);
        legal(in(v, 0, 100));
        int all = world.good[p];
        int found = -1;
        for (int taken = all; taken >= 0; taken--) {
            world.good[p] = all - taken;
            if (price(p) >= v) {
                found = taken;
            }
        }
        world.good[p] = all;
        return found;
    }

    /** Worth above and below, in least terms. */
    private static BigInteger[] worth(int s, int u, int d, int q, int k, int t, boolean last) {
        BigInteger[] used = {BigInteger.valueOf(Math.max(0, s - k)), BigInteger.ONE};
        if (t == 0) {
            return used;
        }
        BigInteger[] up = worth(s + u, u, d, q, k, t - 1, last);
        BigInteger[] down = worth(Math.max(0, s - d), u, d, q, k, t - 1, last);
        BigInteger above = up[0].multiply(down[1]).multiply(BigInteger.valueOf(q))
            .add(down[0].multiply(up[1]).multiply(BigInteger.valueOf(16 - q)));
        BigInteger below = up[1].multiply(down[1]).multiply(BigInteger.valueOf(16));
        BigInteger common = above.gcd(below);
        BigInteger[] waited = {above.divide(common), below.divide(common)};
        return last || isMore(waited, used) ? waited : used;
    }

    private static boolean isMore(BigInteger[] a, BigInteger[] b) {
        return a[0].multiply(b[1]).compareTo(b[0].multiply(a[1])) > 0;
    }

    private void legalOption(int s, int u, int d, int q, int k, int t, int part) {
        legal(in(s, 0, 999) && in(u, 0, 99) && in(d, 0, 99) && in(q, 0, 16) && in(k, 0, 999) && in(t, 0, 6)
            && in(part, 0, 1));
    }

    long option(int s, int u, int d, int q, int k, int t, int part) {
        legalOption(s, u, d, q, k, t, part);
        return worth(s, u, d, q, k, t, false)[part].longValueExact();
    }

    long late(int s, int u, int d, int q, int k, int t, int part) {
        legalOption(s, u, d, q, k, t, part);
        return worth(s, u, d, q, k, t, true)[part].longValueExact();
    }

    boolean now(int s, int u, int d, int q, int k, int t) {
        legalOption(s, u, d, q, k, t, 0);
        BigInteger[] used = {BigInteger.valueOf(s - k), BigInteger.ONE};
        return s > k && !isMore(worth(s, u, d, q, k, t, false), used);
    }

    /** The first way into so many nights, by trying all; null without. */
    private int[] way(List<Integer> hours, int nights, int n, int[] taken, int[] on, int i) {
        if (i == hours.size()) {
            return on.clone();
        }
        for (int night = 0; night < nights; night++) {
            boolean again = false;
            // Two nights with as much taken are alike to what comes behind.
            for (int earlier = 0; earlier < night; earlier++) {
                again |= taken[earlier] == taken[night];
            }
            if (!again && taken[night] + hours.get(i) <= n) {
                taken[night] += hours.get(i);
                on[i] = night;
                int[] found = way(hours, nights, n, taken, on, i + 1);
                taken[night] -= hours.get(i);
                if (found != null) {
                    return found;
                }
            }
        }
        return null;
    }

    private int[] firstWay(int p, int n) {
        List<Integer> hours = new ArrayList<>();
        for (int[] want : wants) {
            if (want[0] == p) {
                hours.add(want[1]);
            }
        }
        for (int nights = 0; nights <= hours.size(); nights++) {
            int[] found = way(hours, nights, n, new int[13], new int[hours.size()], 0);
            if (found != null) {
                int[] all = Arrays.copyOf(found, found.length + 1);
                all[found.length] = nights;
                return all;
            }
        }
        return null;
    }

    int nights(int p, int n) {
        suchPlace(p);
        legal(in(n, 1, 24));
        int[] found = firstWay(p, n);
        return found == null ? -1 : found[found.length - 1];
    }

    int night(int i, int n) {
        such(in(i, 0, wants.size() - 1));
        legal(in(n, 1, 24));
        int[] found = firstWay(wants.get(i)[0], n);
        int ahead = 0;
        for (int j = 0; j < i; j++) {
            ahead += wants.get(j)[0] == wants.get(i)[0] ? 1 : 0;
        }
        return found == null ? -1 : found[ahead];
    }

    int looks(int n, int m, int what) {
        legal(in(n, 1, 40) && in(m, 1, 40) && in(what, 0, 1));
        int[] fewest = new int[n + 1];
        int[] first = new int[n + 1];
        for (int i = 2; i <= n; i++) {
            fewest[i] = 99;
            for (int seen = 1; seen <= Math.min(m, i); seen++) {
                int worst = seen == i ? 99 : 1 + Math.max(fewest[seen], fewest[i - seen]);
                if (worst < fewest[i]) {
                    fewest[i] = worst;
                    first[i] = seen;
                }
            }
        }
        return what == 0 ? fewest[n] : first[n];
    }

    private int miss(int p, int bits) {
        List<Integer> row = new ArrayList<>();
        for (int i = 0; i < places.size(); i++) {
            row.add(i);
        }
        row.sort((a, b) -> places.get(a)[0] - places.get(b)[0]);
        int spot = row.indexOf(p);
        int many = (bits >> p & 1) * 2;
        many += spot > 0 ? bits >> row.get(spot - 1) & 1 : 0;
        many += spot < row.size() - 1 ? bits >> row.get(spot + 1) & 1 : 0;
        return many;
    }

    int leaky(int what) {
        legal(in(what, 0, 3));
        List<Integer> sets = new ArrayList<>();
        for (int bits = 0; bits < 1 << places.size(); bits++) {
            boolean right = true;
            for (int[] line : book) {
                right &= miss(line[0], bits) == line[1];
            }
            if (right) {
                sets.add(bits);
            }
        }
        if (what < 2) {
            return what == 0 ? sets.size() : sets.isEmpty() ? -1 : sets.get(0);
        }
        int answer = 0;
        for (int p = 0; p < places.size() && !sets.isEmpty(); p++) {
            int in = 0;
            for (int bits : sets) {
                in += bits >> p & 1;
            }
            answer |= in == (what == 2 ? sets.size() : 0) ? 1 << p : 0;
        }
        return answer;
    }

    int misses(int p, int bits) {
        suchPlace(p);
        legal(in(bits, 0, (1 << places.size()) - 1));
        return miss(p, bits);
    }

    int seam(int m, int n, int k, int what) {
        such(in(m, 0, mines.size() - 1));
        legal(in(n, 1, 4) && in(k, 0, 9) && in(what, 0, 1));
        int[] best = {-99999, 0};
        int ways = (int) Math.pow(10, n);
        for (int digits = 0; digits < ways; digits++) {
            int left = world.left[m];
            int gain = 0;
            int unit = ways;
            boolean fine = true;
            for (int i = 0; i < n && fine; i++) {
                unit /= 10;
                int shafts = digits / unit % 10;
                int month = world.month + i;
                fine = shafts <= k && (shafts == 0 || month % 12 >= mines.get(m)[2]);
                int out = fine ? digging(shafts, left, month) : 0;
                left -= out;
                gain += out - shafts;
            }
            if (fine && gain > best[0]) {
                best = new int[] {gain, digits};
            }
        }
        return best[what];
    }

    private int got(int p, int own, int other) {
        int pence = 0;
        for (int i = 0; i < wants.size(); i++) {
            if (openAt(i, p) && wants.get(i)[3] >= Math.min(own, other)) {
                int hours = own < other ? wants.get(i)[1] : own == other ? wants.get(i)[1] / 2 : 0;
                pence += hours * own;
            }
        }
        return pence;
    }

    int sellers(int p, int n, int what) {
        suchPlace(p);
        legal(in(n, 0, 20) && in(what, 0, 2));
        int rests = 0;
        int first = -1;
        int gets = 0;
        for (int one = 0; one <= n; one++) {
            for (int other = 0; other <= n; other++) {
                boolean rest = true;
                for (int price = 0; price <= n; price++) {
                    rest &= got(p, price, other) <= got(p, one, other) && got(p, price, one) <= got(p, other, one);
                }
                if (rest && rests++ == 0) {
                    first = 100 * one + other;
                    gets = got(p, one, other);
                }
            }
        }
        return what == 0 ? rests : what == 1 ? first : gets;
    }

    int gets(int p, int own, int other) {
        suchPlace(p);
        legal(in(own, 0, 99) && in(other, 0, 99));
        return got(p, own, other);
    }

    // ---- the sky ----

    private int sky(int day) {
        int bits = 0;
        for (int i = 0; i < moons.size(); i++) {
            bits += day % moons.get(i)[0] == moons.get(i)[1] ? 1 << i : 0;
        }
        return bits;
    }

    int moons(int day) {
        legal(in(day, 0, 9999));
        return sky(day);
    }

    int dark(int day) {
        legal(in(day, 0, 9999));
        int d = day;
        while (d < 10000 && sky(d) != 0) {
            d++;
        }
        return d == 10000 ? -1 : d;
    }

    int bright(int day) {
        legal(in(day, 0, 9999));
        int d = day;
        while (d < 10000 && Integer.bitCount(sky(d)) != moons.size()) {
            d++;
        }
        return d == 10000 ? -1 : d;
    }

    int darks(int from, int to) {
        legal(in(from, 0, 9999) && in(to, 0, 9999) && from <= to);
        int many = 0;
        for (int d = from; d <= to; d++) {
            many += sky(d) == 0 ? 1 : 0;
        }
        return many;
    }

    private int cloudy(int seed, int q, int day, int n, int what) {
        BigInteger s = BigInteger.valueOf(seed);
        BigInteger wrap = BigInteger.ONE.shiftLeft(32);
        StringBuilder days = new StringBuilder();
        int both = 0;
        for (int i = 0; i < n; i++) {
            s = s.multiply(BigInteger.valueOf(1103515245)).add(BigInteger.valueOf(12345)).mod(wrap);
            boolean cloud = s.shiftRight(16).mod(BigInteger.valueOf(32768)).mod(BigInteger.valueOf(16)).intValue() < q;
            boolean dark = sky(day + i) == 0;
            both += cloud && dark ? 1 : 0;
            days.append(cloud || dark ? "#" : " ");
        }
        int longest = 0;
        for (String row : days.toString().split(" ")) {
            longest = Math.max(longest, row.length());
        }
        return what == 0 ? days.toString().replace(" ", "").length() : what == 1 ? longest : both;
    }

    int clouds(int seed, int q, int day, int n, int what) {
        legal(in(q, 0, 16) && in(day, 0, 9999) && in(n, 1, 60) && in(what, 0, 2));
        return cloudy(seed, q, day, n, what);
    }

    int span(int seed, int many, int q, int day, int n, int what) {
        legal(in(many, 1, 40) && in(q, 0, 16) && in(day, 0, 9999) && in(n, 1, 60) && in(what, 0, 2));
        int[] all = new int[many];
        for (int i = 0; i < many; i++) {
            all[i] = cloudy(seed + i, q, day, n, 0);
        }
        Arrays.sort(all);
        return what == 0 ? all[0] : what == 1 ? all[many - 1] : Arrays.stream(all).sum();
    }

    int ahead(int p, int months, int what) {
        suchPlace(p);
        legal(in(months, 0, 60) && in(what, 0, 1));
        World w = world.copy();
        for (int i = 0; i < months; i++) {
            month(w);
        }
        return what == 0 ? w.good[p] : w.watered[p];
    }

    int chosen(int what) {
        legal(in(what, 0, 1));
        int best = -1;
        if (what == 0) {
            for (int p = 0; p < places.size(); p++) {
                if (best < 0 || world.good[p] + world.watered[p] > world.good[best] + world.watered[best]) {
                    best = p;
                }
            }
            return best;
        }
        for (int i = 0; i < wants.size(); i++) {
            if (world.open[i] && (best < 0
                || wants.get(i)[3] * 27720 / wants.get(i)[1] > wants.get(best)[3] * 27720 / wants.get(best)[1])) {
                best = i;
            }
        }
        return best;
    }

    int image() {
        if (images.size() == 3) {
            return -1;
        }
        List<World> works = new ArrayList<>();
        for (World w : past) {
            works.add(w.copy());
        }
        images.add(new Image(world.copy(), works));
        return images.size();
    }

    int restore() {
        if (images.isEmpty()) {
            return -1;
        }
        Image latest = images.remove(images.size() - 1);
        world = latest.world;
        past = latest.past;
        refused = 0;
        return images.size();
    }

    int status(int what) {
        return in(what, 0, 1) ? status[what] : -1;
    }

    int count(int what) {
        return what == 0 ? images.size() : what == 1 ? tape.length() : what == 2 ? past.size() : -1;
    }
}
