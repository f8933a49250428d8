import java.util.ArrayList;
import java.util.List;

/**
 * The document once more, written as slowly and as near to its words as can be (all orders for
 * powers, all quotas for the law, all placings for the match), to be held against the program.
 */
final class Oracle {
    static final String[] NAMES = {
        "SPEAKER", "WIDOW", "MUTE", "TENANT", "LODGER", "CHILD", "OWNER", "PRIEST"
    };
    static final long APART = 1000000001L;

    static final class One {
        String kind;
        int figure;
        int balcony;
        int mood;

        One(String kind, int figure, int balcony, int mood) {
            this.kind = kind;
            this.figure = figure;
            this.balcony = balcony;
            this.mood = mood;
        }
    }

    static final class Town {
        int[] heights = {0, 0, 1, 1, 2, 2, 3, 3, 4, 4};
        boolean[] shut = new boolean[10];
        List<One> ones = new ArrayList<>();
        int quota = 10;
        int day = 0;

        Town twin() {
            Town t = new Town();
            t.heights = heights.clone();
            t.shut = shut.clone();
            for (One o : ones) {
                t.ones.add(new One(o.kind, o.figure, o.balcony, o.mood));
            }
            t.quota = quota;
            t.day = day;
            return t;
        }

        int weight(One o) {
            return weight(o, heights[o.balcony]);
        }

        int weight(One o, int h) {
            return weight(o.kind, o.figure, h);
        }

        static int weight(String kind, int figure, int h) {
            return switch (kind) {
                case "SPEAKER" -> 1 + h;
                case "WIDOW" -> h + h;
                case "MUTE" -> figure / 3;
                case "TENANT" -> weight("SPEAKER", figure, h) - 1;
                case "LODGER" -> weight("TENANT", figure, h) / 2;
                case "CHILD" -> 9;
                case "OWNER" -> weight("WIDOW", figure, h) + figure;
                case "PRIEST" -> 3 + (figure / 2);
                default -> throw new AssertionError(kind);
            };
        }

        static int sway(String kind, int figure) {
            return switch (kind) {
                case "SPEAKER" -> 1;
                case "WIDOW" -> 0;
                case "MUTE" -> sway("SPEAKER", figure);
                case "TENANT" -> 2;
                case "LODGER" -> sway("TENANT", figure) + figure / 3;
                case "CHILD" -> 3;
                case "OWNER" -> sway("WIDOW", figure);
                case "PRIEST" -> sway("SPEAKER", figure);
                default -> throw new AssertionError(kind);
            };
        }

        static int cost(String kind, int figure) {
            return switch (kind) {
                case "SPEAKER" -> 2;
                case "WIDOW" -> cost("SPEAKER", figure) + figure;
                case "MUTE" -> 0;
                case "TENANT" -> cost("SPEAKER", figure) - 1;
                case "LODGER" -> cost("TENANT", figure) / 2;
                case "CHILD" -> 1;
                case "OWNER" -> 2 * cost("WIDOW", figure);
                case "PRIEST" -> 9;
                default -> throw new AssertionError(kind);
            };
        }

        boolean heard(One o) {
            return !shut[o.balcony];
        }

        boolean vetoes(One o) {
            if (o.mood >= 0) {
                return false;
            }
            return o.kind.equals("OWNER") || o.kind.equals("PRIEST") && o.mood <= -5;
        }

        int why(List<One> heard) {
            boolean side0 = false;
            boolean side1 = false;
            boolean veto = false;
            int weight = 0;
            for (One o : heard) {
                if (o.mood > 0) {
                    side0 |= o.balcony % 2 == 0;
                    side1 |= o.balcony % 2 == 1;
                    weight += weight(o);
                }
                veto |= vetoes(o);
            }
            return !side0 ? 1 : !side1 ? 2 : weight < quota ? 3 : veto ? 4 : 0;
        }

        List<One> allHeard() {
            List<One> l = new ArrayList<>();
            for (One o : ones) {
                if (heard(o)) {
                    l.add(o);
                }
            }
            return l;
        }

        int heardBits() {
            int bits = 0;
            for (int i = 0; i < ones.size(); i++) {
                bits |= heard(ones.get(i)) ? 1 << i : 0;
            }
            return bits;
        }

        boolean carries() {
            return why(allHeard()) == 0;
        }

        int weightFor() {
            int w = 0;
            for (One o : allHeard()) {
                w += o.mood > 0 ? weight(o) : 0;
            }
            return w;
        }

        boolean inSight(One a, One b) {
            return a.balcony % 2 != b.balcony % 2
                && Math.abs(heights[a.balcony] - heights[b.balcony]) <= 1;
        }

        void oneDay() {
            day++;
            for (One o : ones) {
                int n = 0;
                int sum = 0;
                for (One p : ones) {
                    if (heard(p) && inSight(o, p)) {
                        n++;
                        sum += p.mood;
                    }
                }
                if (n > 0) {
                    int goal = sum / n;
                    for (int step = 0; step < sway(o.kind, o.figure); step++) {
                        o.mood += Integer.signum(goal - o.mood);
                    }
                }
            }
        }

        Town after(int n) {
            Town t = twin();
            for (int i = 0; i < n; i++) {
                t.oneDay();
            }
            return t;
        }

        int holds(int n) {
            int k = 0;
            for (int i = 1; i <= n; i++) {
                k += after(i).carries() ? 1 : 0;
            }
            return k;
        }

        boolean could(int group, int q) {
            Town t = twin();
            t.quota = q;
            for (int i = 0; i < t.ones.size(); i++) {
                t.ones.get(i).mood = (group >> i & 1) == 1 ? 1 : 0;
            }
            return t.carries();
        }
    }

    static final class Held {
        int kind = -1;
        int figure;
        int sort = -1;
        int[] row;

        boolean isRow() {
            return row != null;
        }
    }

    Town now = new Town();
    Town image = null;
    final Held[] shelves = new Held[8];

    static boolean in(int v, int a, int b) {
        return v >= a && v <= b;
    }

    boolean one(int s) {
        return in(s, 0, now.ones.size() - 1);
    }

    int held(int d, boolean row) {
        if (!in(d, 0, 7)) {
            return -1;
        }
        if (shelves[d] == null) {
            return -11;
        }
        return shelves[d].isRow() == row ? 0 : -12;
    }

    long quarter(int d) {
        int r = held(d, true);
        if (r != 0) {
            return r;
        }
        if (shelves[d].sort != 0) {
            return -12;
        }
        StringBuilder b = new StringBuilder();
        for (int v : shelves[d].row) {
            b.append((char) (v & 255));
        }
        String text = b.toString();
        String statement = "(b[0-9]{2}|s[0-9]{3}|[fa][0-9]{2}|o[0-9]|[qd][0-9]{2});";
        if (!text.matches("(" + statement + ")+")) {
            // the longest beginning that some quarter has
            for (int n = text.length(); ; n--) {
                if (canGoOn(text.substring(0, n), statement)) {
                    return -1000 - n;
                }
            }
        }
        Town t = now.twin();
        int place = 0;
        String[] parts = text.split(";");
        for (String p : parts) {
            t = done(t, p);
            if (t == null) {
                return -2000 - place;
            }
            place += p.length() + 1;
        }
        now = t;
        return parts.length;
    }

    static boolean canGoOn(String begin, String statement) {
        String[] tails = {"", ";", "0;", "00;", "000;", "o0;"};
        for (String tail : tails) {
            if ((begin + tail).matches("(" + statement + ")+")) {
                return true;
            }
        }
        return false;
    }

    static Town done(Town t, String p) {
        int[] g = new int[4];
        for (int i = 1; i < p.length(); i++) {
            g[i] = p.charAt(i) - '0';
        }
        int number = 10 * g[1] + g[2];
        switch (p.charAt(0)) {
            case 'b':
                t.heights[g[1]] = g[2];
                return g[2] <= 7 ? t : null;
            case 's':
                if (g[1] > 7 || t.ones.size() >= 7) {
                    return null;
                }
                t.ones.add(new One(NAMES[g[1]], g[2], g[3], 0));
                return t;
            case 'f':
            case 'a':
                if (g[1] >= t.ones.size()) {
                    return null;
                }
                t.ones.get(g[1]).mood = p.charAt(0) == 'f' ? g[2] : -g[2];
                return t;
            case 'o':
                t.shut[g[1]] = !t.shut[g[1]];
                return t;
            case 'q':
                t.quota = number;
                return number >= 1 ? t : null;
            default:
                return in(number, 1, 60) && t.day + number <= 999 ? t.after(number) : null;
        }
    }

    long speaker(int s, int what) {
        if (!one(s) || !in(what, 0, 6)) {
            return -1;
        }
        One o = now.ones.get(s);
        return switch (what) {
            case 0 -> List.of(NAMES).indexOf(o.kind);
            case 1 -> o.figure;
            case 2 -> o.balcony;
            case 3 -> o.mood + 9;
            case 4 -> now.weight(o);
            case 5 -> now.heard(o) ? 1 : 0;
            default -> Town.sway(o.kind, o.figure);
        };
    }

    long balcony(int b, int what) {
        if (!in(b, 0, 9) || !in(what, 0, 2)) {
            return -1;
        }
        int bits = 0;
        for (int i = 0; i < now.ones.size(); i++) {
            bits |= now.ones.get(i).balcony == b ? 1 << i : 0;
        }
        return what == 0 ? now.heights[b] : what == 1 ? (now.shut[b] ? 1 : 0) : bits;
    }

    long comes(int d, int b) {
        if (!in(d, 0, 7) || !in(b, 0, 9)) {
            return -1;
        }
        int r = held(d, false);
        if (r != 0) {
            return r;
        }
        if (now.ones.size() == 7) {
            return -2;
        }
        now.ones.add(new One(NAMES[shelves[d].kind], shelves[d].figure, b, 0));
        return now.ones.size() - 1;
    }

    long builds(int b, int v) {
        if (!in(b, 0, 9) || !in(v, 0, 7)) {
            return -1;
        }
        int was = now.heights[b];
        now.heights[b] = v;
        return was;
    }

    long shuts(int b) {
        if (!in(b, 0, 9)) {
            return -1;
        }
        now.shut[b] = !now.shut[b];
        return now.shut[b] ? 1 : 0;
    }

    long thinks(int s, int v) {
        if (!one(s) || !in(v, -9, 9)) {
            return APART;
        }
        int was = now.ones.get(s).mood;
        now.ones.get(s).mood = v;
        return was;
    }

    long goes(int s, int b) {
        if (!one(s) || !in(b, 0, 9)) {
            return -1;
        }
        int was = now.ones.get(s).balcony;
        now.ones.get(s).balcony = b;
        return was;
    }

    long quota(int v) {
        if (!in(v, 1, 99)) {
            return -1;
        }
        int was = now.quota;
        now.quota = v;
        return was;
    }

    long days(int n) {
        if (!in(n, 1, 60)) {
            return -1;
        }
        if (now.day + n > 999) {
            return -3;
        }
        now = now.after(n);
        return now.carries() ? 1 : 0;
    }

    long carries(int what) {
        return switch (what) {
            case 0 -> now.carries() ? 1 : 0;
            case 1 -> now.weightFor();
            case 2 -> now.weightFor() < now.quota ? now.quota - now.weightFor() : 0;
            case 3 -> now.why(now.allHeard());
            default -> -1;
        };
    }

    long moodThen(int s, int n) {
        return one(s) && in(n, 0, 60) ? now.after(n).ones.get(s).mood : APART;
    }

    long then(int n, int what) {
        if (!in(n, 0, 60) || !in(what, 0, 1)) {
            return -1;
        }
        Town t = now.after(n);
        return what == 0 ? (t.carries() ? 1 : 0) : t.weightFor();
    }

    long when() {
        for (int n = 0; n <= 60; n++) {
            if (now.after(n).carries()) {
                return n;
            }
        }
        return -4;
    }

    long holds(int n) {
        return in(n, 0, 60) ? now.holds(n) : -1;
    }

    long could(int group) {
        if (group < 0 || group >= 1 << now.ones.size()) {
            return -1;
        }
        return now.could(group, now.quota) ? 1 : 0;
    }

    /** Orders of those heard, counted one by one: all, and those that s turns. */
    private void orders(List<Integer> left, int before, int s, long[] counts) {
        if (left.isEmpty()) {
            counts[1]++;
            return;
        }
        for (int i = 0; i < left.size(); i++) {
            List<Integer> rest = new ArrayList<>(left);
            int next = rest.remove(i);
            int upTo = before | 1 << next;
            if (next == s && couldNow[upTo] && !couldNow[before]) {
                long[] below = new long[2];
                orders(rest, upTo, -1, below);
                counts[0] += below[1];
                counts[1] += below[1];
            } else {
                orders(rest, upTo, next == s ? -1 : s, counts);
            }
        }
    }

    private boolean[] couldNow;

    private void lookUpCould() {
        couldNow = new boolean[1 << now.ones.size()];
        for (int g = 0; g < couldNow.length; g++) {
            couldNow[g] = now.could(g, now.quota);
        }
    }

    /** What stands below a line here has no prime above 19 in it. */
    static long lowest(long a, long b, int part) {
        for (long k = 2; k <= 20; k++) {
            while (a % k == 0 && b % k == 0 && b > 1) {
                a /= k;
                b /= k;
            }
        }
        return part == 0 ? a : b;
    }

    long power(int s, int part) {
        if (!one(s) || !in(part, 0, 1)) {
            return APART;
        }
        lookUpCould();
        List<Integer> heard = new ArrayList<>();
        for (int i = 0; i < now.ones.size(); i++) {
            if (now.heard(now.ones.get(i))) {
                heard.add(i);
            }
        }
        long[] counts = new long[2];
        orders(heard, 0, s, counts);
        return counts[0] == 0 ? part : lowest(counts[0], counts[1], part);
    }

    long groups(int what) {
        if (!in(what, 0, 2)) {
            return -1;
        }
        lookUpCould();
        int heard = now.heardBits();
        if (what == 2) {
            int bits = 0;
            for (int i = 0; i < now.ones.size(); i++) {
                if ((heard >> i & 1) == 1 && !couldNow[heard - (1 << i)]) {
                    bits |= 1 << i;
                }
            }
            return bits;
        }
        if (what == 0) {
            for (int size = 0; size <= 7; size++) {
                for (int g = 0; g < couldNow.length; g++) {
                    if ((g | heard) == heard && Integer.bitCount(g) == size && couldNow[g]) {
                        return g;
                    }
                }
            }
            return -4;
        }
        int n = 0;
        for (int g = 0; g < couldNow.length; g++) {
            if ((g | heard) == heard && couldNow[g]) {
                boolean least = true;
                for (int h = 0; h < g; h++) {
                    least &= (h | g) != g || !couldNow[h];
                }
                n += least ? 1 : 0;
            }
        }
        return n;
    }

    long swings(int s) {
        if (!one(s)) {
            return -1;
        }
        lookUpCould();
        int heard = now.heardBits();
        int n = 0;
        for (int g = 0; g < couldNow.length; g++) {
            if ((g | heard) == heard && (g >> s & 1) == 1 && couldNow[g] && !couldNow[g ^ 1 << s]) {
                n++;
            }
        }
        return n;
    }

    long win(int what) {
        if (!in(what, 0, 1)) {
            return -1;
        }
        int heard = now.heardBits();
        for (int size = 0; size <= 7; size++) {
            for (int g = 0; g < 128; g++) {
                if ((g | heard) == heard && Integer.bitCount(g) == size) {
                    Town t = now.twin();
                    for (int i = 0; i < t.ones.size(); i++) {
                        if ((g >> i & 1) == 1) {
                            t.ones.get(i).mood = what == 0 ? 9 : -9;
                        }
                    }
                    if (t.carries() == (what == 0)) {
                        return g;
                    }
                }
            }
        }
        return -4;
    }

    long guest(int s, int n, int what) {
        if (!one(s) || !in(n, 0, 60) || !in(what, 0, 1)) {
            return -1;
        }
        int[] k = new int[10];
        int top = 0;
        for (int b = 0; b < 10; b++) {
            Town t = now.twin();
            t.ones.get(s).balcony = b;
            k[b] = t.holds(n);
            top = Math.max(top, k[b]);
        }
        for (int b = 0; b < 10; b++) {
            if (k[b] == top) {
                return what == 0 ? b : top;
            }
        }
        throw new AssertionError();
    }

    long shutter(int n) {
        if (!in(n, 0, 60)) {
            return -1;
        }
        int most = now.holds(n);
        long best = -4;
        for (int b = 0; b < 10; b++) {
            Town t = now.twin();
            t.shut[b] = !t.shut[b];
            int k = t.holds(n);
            if (k > most) {
                most = k;
                best = b;
            }
        }
        return best;
    }

    long quotaMost() {
        for (int q = 99; q >= 1; q--) {
            Town t = now.twin();
            t.quota = q;
            if (t.carries()) {
                return q;
            }
        }
        return -4;
    }

    long rent(int s, int b) {
        if (!one(s) || !in(b, 0, 9)) {
            return APART;
        }
        One o = now.ones.get(s);
        return now.weight(o, now.heights[b]) - now.weight(o, 0);
    }

    long bestRail(int s) {
        if (!one(s)) {
            return -1;
        }
        int best = 0;
        for (int b = 9; b >= 0; b--) {
            One o = now.ones.get(s);
            if (now.weight(o, now.heights[b]) >= now.weight(o, now.heights[best])) {
                best = b;
            }
        }
        return best;
    }

    private int[] placing;
    private int[] bestPlacing;
    private int bestWeight;

    private void place(int s, int taken, int weight) {
        if (s == now.ones.size()) {
            if (weight > bestWeight) {
                bestWeight = weight;
                bestPlacing = placing.clone();
            }
            return;
        }
        for (int b = 0; b < 10; b++) {
            if ((taken >> b & 1) == 0) {
                placing[s] = b;
                place(s + 1, taken | 1 << b, weight + now.weight(now.ones.get(s), now.heights[b]));
            }
        }
    }

    long match(int s) {
        if (s != -1 && !one(s)) {
            return -1;
        }
        placing = new int[7];
        bestWeight = -1;
        place(0, 0, 0);
        return s == -1 ? bestWeight : bestPlacing[s];
    }

    long lines(int what) {
        if (what == 0) {
            int n = 0;
            for (One a : now.ones) {
                for (One b : now.ones) {
                    n += now.inSight(a, b) ? 1 : 0;
                }
            }
            return n / 2;
        }
        if (what != 1) {
            return -1;
        }
        for (int w = 200; w >= 0; w--) {
            for (int i = 0; i < now.ones.size(); i++) {
                if (now.heard(now.ones.get(i)) && now.weight(now.ones.get(i)) == w) {
                    return i;
                }
            }
        }
        return -4;
    }

    long law(int d, int what) {
        if (!in(d, 0, 7) || !in(what, 0, 2)) {
            return -1;
        }
        int r = held(d, true);
        if (r != 0) {
            return r;
        }
        int[] row = shelves[d].row;
        if (row.length % 2 == 1) {
            return -13;
        }
        for (int i = 0; i < row.length; i += 2) {
            if (row[i] < 0 || row[i] >= 1 << now.ones.size() || !in(row[i + 1], 0, 1)) {
                return -13;
            }
        }
        int n = 0;
        int least = -4;
        int greatest = -4;
        for (int q = 1; q <= 99; q++) {
            boolean so = true;
            for (int i = 0; i < row.length; i += 2) {
                so &= now.could(row[i], q) == (row[i + 1] == 1);
            }
            if (so) {
                n++;
                least = least == -4 ? q : least;
                greatest = q;
            }
        }
        return what == 0 ? n : what == 1 ? least : greatest;
    }

    static int leastOf(int sort) {
        return sort == 0 ? Byte.MIN_VALUE : sort == 1 ? Short.MIN_VALUE : Integer.MIN_VALUE;
    }

    long whatIs(int d, int s, int what) {
        if (!in(d, 0, 7) || !one(s) || !in(what, 0, 1)) {
            return -1;
        }
        int r = held(d, true);
        if (r != 0) {
            return r;
        }
        int bits = 0;
        for (int i = 0; i < (what == 0 ? 8 : 10); i++) {
            Town t = now.twin();
            if (what == 0) {
                t.ones.get(s).kind = NAMES[i];
            } else {
                t.ones.get(s).figure = i;
            }
            boolean so = true;
            for (int v : shelves[d].row) {
                so &= v == leastOf(shelves[d].sort) || v == t.ones.get(s).mood;
                t.oneDay();
            }
            bits |= so ? 1 << i : 0;
        }
        return bits;
    }

    private int gain(int a, int b, int x, int y, boolean ofA) {
        Town t = now.twin();
        t.ones.get(a).mood = x == 1 ? 9 : 0;
        t.ones.get(b).mood = y == 1 ? 9 : 0;
        boolean wants = now.ones.get(ofA ? a : b).mood > 0;
        int g = t.carries() == wants ? 5 : 0;
        return (ofA ? x : y) == 1 ? g - 1 : g;
    }

    long two(int a, int b) {
        if (!one(a) || !one(b) || a == b) {
            return -1;
        }
        for (int p : new int[] {0, 1, 10, 11}) {
            int x = p / 10;
            int y = p % 10;
            boolean better = gain(a, b, 1 - x, y, true) > gain(a, b, x, y, true)
                || gain(a, b, x, 1 - y, false) > gain(a, b, x, y, false);
            if (!better) {
                return p;
            }
        }
        return -4;
    }

    private long rainy(int i, List<One> heard, int t) {
        if (i == now.ones.size()) {
            return now.why(heard) == 0 ? 1 : 0;
        }
        long in = rainy(i + 1, heard, t);
        List<One> more = new ArrayList<>(heard);
        if (now.heard(now.ones.get(i))) {
            more.add(now.ones.get(i));
        }
        return in + (t - 1) * rainy(i + 1, more, t);
    }

    long rain(int t, int part) {
        if (!in(t, 2, 20) || !in(part, 0, 1)) {
            return APART;
        }
        long above = rainy(0, new ArrayList<>(), t);
        long below = Math.round(Math.pow(t, now.ones.size()));
        return above == 0 ? part : lowest(above, below, part);
    }

    long mean(int part) {
        if (!in(part, 0, 1)) {
            return APART;
        }
        int sum = 0;
        for (One o : now.ones) {
            sum += o.mood;
        }
        return sum == 0 ? part : lowest(sum, now.ones.size(), part);
    }

    long forged(int d) {
        int r = held(d, true);
        if (r != 0) {
            return r;
        }
        for (int i = 0; i < shelves[d].row.length; i++) {
            if (i > 9 || shelves[d].row[i] != now.heights[i]) {
                return i;
            }
        }
        return -4;
    }

    long judge(int d) {
        int r = held(d, true);
        if (r != 0) {
            return r;
        }
        for (int i = 0; i < shelves[d].row.length; i++) {
            int v = shelves[d].row[i];
            if (v != leastOf(shelves[d].sort) && v != (now.after(i).carries() ? 1 : 0)) {
                return i;
            }
        }
        return -4;
    }

    private long seed;

    private int draw(int n) {
        seed = (int) (seed * 1103515245L + 12345L);
        return (int) ((seed & Integer.MAX_VALUE) / 65536 % n);
    }

    long streets(int n, int z, int what) {
        if (!in(n, 1, 20) || !in(what, 0, 1)) {
            return -1;
        }
        seed = z;
        int carried = 0;
        int weight = 0;
        for (int i = 0; i < n; i++) {
            Town t = now.twin();
            for (One o : t.ones) {
                o.balcony = draw(10);
                o.mood = draw(19) - 9;
            }
            t = t.after(5);
            carried += t.carries() ? 1 : 0;
            weight += t.weightFor();
        }
        return what == 0 ? carried : weight;
    }

    long image() {
        image = now.twin();
        return now.day;
    }

    long restore() {
        if (image == null) {
            return -3;
        }
        now = image.twin();
        return now.day;
    }

    long count(int what) {
        int fors = 0;
        int against = 0;
        int shut = 0;
        for (int i = 0; i < now.ones.size(); i++) {
            fors += now.ones.get(i).mood > 0 ? 1 << i : 0;
            against += now.ones.get(i).mood < 0 ? 1 << i : 0;
        }
        for (int b = 0; b < 10; b++) {
            shut += now.shut[b] ? 1 << b : 0;
        }
        return switch (what) {
            case 0 -> now.ones.size();
            case 1 -> now.day;
            case 2 -> now.quota;
            case 3 -> now.heardBits();
            case 4 -> fors;
            case 5 -> against;
            case 6 -> shut;
            default -> -1;
        };
    }

    long keep(int d, int what, int k, int figure) {
        if (!in(d, 0, 7) || !in(what, 0, 1)) {
            return -1;
        }
        if (what == 0) {
            shelves[d] = null;
            return 0;
        }
        if (!in(k, 0, 7) || !in(figure, 0, 9)) {
            return -1;
        }
        shelves[d] = new Held();
        shelves[d].kind = k;
        shelves[d].figure = figure;
        return 0;
    }

    long row(int d, int sort, int n) {
        if (!in(d, 0, 7) || !in(sort, 0, 2) || n > 100) {
            return -1;
        }
        if (n < 0) {
            return -14;
        }
        shelves[d] = new Held();
        shelves[d].sort = sort;
        shelves[d].row = new int[n];
        return 0;
    }

    long put(int d, int i, int v) {
        int r = held(d, true);
        if (r != 0) {
            return r;
        }
        if (!in(i, 0, shelves[d].row.length - 1)) {
            return -13;
        }
        int sort = shelves[d].sort;
        shelves[d].row[i] = sort == 0 ? (byte) v : sort == 1 ? (short) v : v;
        return 0;
    }

    /** What is thrown is told by numbers no element can be. */
    static final long ILLEGAL_ARGUMENT = Long.MAX_VALUE;
    static final long ILLEGAL_STATE = Long.MAX_VALUE - 1;

    long element(int d, int i) {
        if (!in(d, 0, 7)) {
            return ILLEGAL_ARGUMENT;
        }
        if (held(d, true) != 0 || !in(i, 0, shelves[d].row.length - 1)) {
            return ILLEGAL_STATE;
        }
        return shelves[d].row[i];
    }

    long copy(int d, int i, int e, int j, int n) {
        if (!in(d, 0, 7) || !in(e, 0, 7)) {
            return -1;
        }
        Held a = shelves[d];
        Held b = shelves[e];
        if (a == null || b == null) {
            return -11;
        }
        if (!a.isRow() || !b.isRow() || a.sort != b.sort) {
            return -12;
        }
        if (n < 0 || i < 0 || j < 0 || (long) i + n > a.row.length || (long) j + n > b.row.length) {
            return -13;
        }
        int[] taken = a.row.clone();
        for (int k = 0; k < n; k++) {
            b.row[j + k] = taken[i + k];
        }
        return n;
    }

    long cost(int d) {
        int r = held(d, false);
        return r != 0 ? r : Town.cost(NAMES[shelves[d].kind], shelves[d].figure);
    }

    long toss(int d) {
        int r = held(d, false);
        if (r != 0) {
            return r;
        }
        int f = shelves[d].figure;
        String kind = NAMES[shelves[d].kind];
        if (f == 0 || kind.equals("MUTE") || kind.equals("CHILD")) {
            return -15;
        }
        return kind.equals("OWNER") ? 200 + Town.cost(kind, f) : kind.equals("WIDOW") ? 100 + f : f;
    }
}
