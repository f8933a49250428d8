/**
 * Balconies are the only parliament: a street with rails on both sides, speakers who lean on them,
 * and what they carry. Every call of the face looks at its arguments first and answers a refusal
 * before anything changes.
 */
public final class BalconiesParliament {
    private static final int BALCONIES = 10;
    private static final int MOST_HEIGHT = 7;
    private static final int MOST_PEOPLE = 7;
    private static final int KINDS = 8;
    private static final int MOST_FIGURE = 9;
    private static final int MOST_MOOD = 9;
    private static final int FIRST_QUOTA = 10;
    private static final int MOST_QUOTA = 99;
    private static final int MOST_DAY = 999;
    private static final int MOST_DAYS = 60;
    private static final int SHELVES = 8;
    private static final int SORTS = 3;
    private static final int MOST_ELEMENTS = 100;
    private static final int STREETS_AT_ONCE = 20;
    private static final int DAYS_OF_A_STREET = 5;

    private static final int NO_SUCH = -1;
    private static final int NO_ROOM = -2;
    private static final int NOT_AS_IT_MUST = -3;
    private static final int NONE = -4;
    private static final int NOTHING_HELD = -11;
    private static final int OTHER_KIND = -12;
    private static final int NO_PLACE = -13;
    private static final int SIZE_BELOW_0 = -14;
    private static final int NO_FAILURE = -15;
    /** NO_SUCH where moods, rents and longs are answered, which may be below 0 themselves. */
    private static final int NO_SUCH_APART = 1000000000 - NO_SUCH;

    private final Street now;
    /** Where streets are tried out, so that no call makes one. */
    private final Street mind;
    private final Street kept;
    private boolean hasImage;
    private final Rails rails;
    private final Shelf[] shelves;

    public BalconiesParliament() {
        now = new Street();
        mind = new Street();
        kept = new Street();
        hasImage = false;
        rails = new Rails();
        shelves = new Shelf[SHELVES];
        for (int d = 0; d < SHELVES; d++) {
            shelves[d] = new Shelf();
        }
    }

    // ---- the quarter as told

    public int quarter(int d) {
        int refusal = refusalOf(d, Shelf.A_ROW);
        if (refusal != 0) {
            return refusal;
        }
        if (shelves[d].sort != Shelf.BYTES) {
            return OTHER_KIND;
        }
        mind.become(now);
        int answer = Script.play(shelves[d], mind);
        if (answer >= 0) {
            now.become(mind);
        }
        return answer;
    }

    public int speaker(int s, int what) {
        if (!now.isThere(s)) {
            return NO_SUCH;
        }
        switch (what) {
            case 0: return now.kind[s];
            case 1: return now.figure[s];
            case 2: return now.rail[s];
            case 3: return now.mood[s] + MOST_MOOD;
            case 4: return now.weightOf(s);
            case 5: return oneIf(now.isHeard(s));
            case 6: return Kinds.swayOf(now.kind[s], now.figure[s]);
            default: return NO_SUCH;
        }
    }

    public int balcony(int b, int what) {
        if (!isBalcony(b)) {
            return NO_SUCH;
        }
        switch (what) {
            case 0: return now.height[b];
            case 1: return oneIf(now.isShut(b));
            case 2: return now.onesOn(b);
            default: return NO_SUCH;
        }
    }

    public int comes(int d, int b) {
        if (!isBalcony(b)) {
            return NO_SUCH;
        }
        int refusal = refusalOf(d, Shelf.A_KIND);
        if (refusal != 0) {
            return refusal;
        }
        if (!now.hasRoom()) {
            return NO_ROOM;
        }
        now.admit(shelves[d].kind, shelves[d].figure, b);
        return now.people - 1;
    }

    public int builds(int b, int v) {
        if (!isBalcony(b) || !isWithin(v, 0, MOST_HEIGHT)) {
            return NO_SUCH;
        }
        int was = now.height[b];
        now.height[b] = v;
        return was;
    }

    public int shuts(int b) {
        if (!isBalcony(b)) {
            return NO_SUCH;
        }
        now.turnShutter(b);
        return oneIf(now.isShut(b));
    }

    public int thinks(int s, int v) {
        if (!now.isThere(s) || !isWithin(v, -MOST_MOOD, MOST_MOOD)) {
            return NO_SUCH_APART;
        }
        int was = now.mood[s];
        now.mood[s] = v;
        return was;
    }

    public int goes(int s, int b) {
        if (!now.isThere(s) || !isBalcony(b)) {
            return NO_SUCH;
        }
        int was = now.rail[s];
        now.rail[s] = b;
        return was;
    }

    public int quota(int v) {
        if (!isWithin(v, 1, MOST_QUOTA)) {
            return NO_SUCH;
        }
        int was = now.needed;
        now.needed = v;
        return was;
    }

    public int days(int n) {
        if (!isWithin(n, 1, MOST_DAYS)) {
            return NO_SUCH;
        }
        if (!now.hasDaysLeft(n)) {
            return NOT_AS_IT_MUST;
        }
        now.live(n);
        return oneIf(now.isCarried());
    }

    // ---- what carries

    public int carries(int what) {
        int heard = now.heardOnes();
        switch (what) {
            case 0: return oneIf(now.isCarried());
            case 1: return now.weightFor(heard);
            case 2: return Math.max(0, now.needed - now.weightFor(heard));
            case 3: return now.whyNot(heard);
            default: return NO_SUCH;
        }
    }

    public int moodThen(int s, int n) {
        if (!now.isThere(s) || !isSpan(n)) {
            return NO_SUCH_APART;
        }
        mind.become(now);
        mind.live(n);
        return mind.mood[s];
    }

    public int then(int n, int what) {
        if (!isSpan(n) || !isWithin(what, 0, 1)) {
            return NO_SUCH;
        }
        mind.become(now);
        mind.live(n);
        return what == 0 ? oneIf(mind.isCarried()) : mind.weightFor(mind.heardOnes());
    }

    public int when() {
        mind.become(now);
        mind.startDays();
        boolean moved = true;
        for (int n = 0; n <= MOST_DAYS && moved; n++) {
            if (mind.isCarried()) {
                return n;
            }
            moved = mind.nextDay();
        }
        return NONE;
    }

    public int holds(int n) {
        if (!isSpan(n)) {
            return NO_SUCH;
        }
        mind.become(now);
        return mind.carriedDays(n);
    }

    // ---- groups, powers

    public int could(int group) {
        if (!now.areThere(group)) {
            return NO_SUCH;
        }
        return oneIf(Groups.isEnough(now, group & now.heardOnes()));
    }

    public long power(int s, int part) {
        if (!now.isThere(s) || !isWithin(part, 0, 1)) {
            return NO_SUCH_APART;
        }
        return Fraction.inLeastTerms(Groups.ordersTurned(now, s), Groups.ordersOfHeard(now), part);
    }

    public int groups(int what) {
        switch (what) {
            case 0: return Groups.smallest(now);
            case 1: return Groups.leastOnes(now);
            case 2: return Groups.blocks(now);
            default: return NO_SUCH;
        }
    }

    public int swings(int s) {
        if (!now.isThere(s)) {
            return NO_SUCH;
        }
        return Groups.turnedGroups(now, s);
    }

    public int win(int what) {
        if (!isWithin(what, 0, 1)) {
            return NO_SUCH;
        }
        boolean carried = what == 0;
        return fewestOfMood(carried ? MOST_MOOD : -MOST_MOOD, carried);
    }

    public int guest(int s, int n, int what) {
        if (!now.isThere(s) || !isSpan(n) || !isWithin(what, 0, 1)) {
            return NO_SUCH;
        }
        int best = 0;
        int most = -1;
        for (int b = 0; b < BALCONIES; b++) {
            mind.become(now);
            mind.rail[s] = b;
            int carried = mind.carriedDays(n);
            if (carried > most) {
                most = carried;
                best = b;
            }
        }
        return what == 0 ? best : most;
    }

    public int shutter(int n) {
        if (!isSpan(n)) {
            return NO_SUCH;
        }
        mind.become(now);
        int most = mind.carriedDays(n);
        int best = NONE;
        for (int b = 0; b < BALCONIES; b++) {
            mind.become(now);
            mind.turnShutter(b);
            int carried = mind.carriedDays(n);
            if (carried > most) {
                most = carried;
                best = b;
            }
        }
        return best;
    }

    public int quotaMost() {
        int heard = now.heardOnes();
        mind.become(now);
        mind.needed = Math.max(1, Math.min(MOST_QUOTA, now.weightFor(heard)));
        return mind.isCarried() ? mind.needed : NONE;
    }

    // ---- rails

    public int rent(int s, int b) {
        if (!now.isThere(s) || !isBalcony(b)) {
            return NO_SUCH_APART;
        }
        return now.weightAt(s, now.height[b]) - now.weightAt(s, 0);
    }

    public int bestRail(int s) {
        if (!now.isThere(s)) {
            return NO_SUCH;
        }
        int best = 0;
        for (int b = 1; b < BALCONIES; b++) {
            if (now.weightAt(s, now.height[b]) > now.weightAt(s, now.height[best])) {
                best = b;
            }
        }
        return best;
    }

    public int match(int s) {
        if (s != -1 && !now.isThere(s)) {
            return NO_SUCH;
        }
        rails.weigh(now);
        return s == -1 ? rails.mostWeight() : rails.railOf(s);
    }

    public int lines(int what) {
        switch (what) {
            case 0: return now.twosInSight();
            case 1: return now.loudest();
            default: return NO_SUCH;
        }
    }

    // ---- the law, what he is

    public int law(int d, int what) {
        if (!isWithin(what, 0, 2)) {
            return NO_SUCH;
        }
        int refusal = refusalOf(d, Shelf.A_ROW);
        if (refusal != 0) {
            return refusal;
        }
        if (!Law.isTold(shelves[d], now)) {
            return NO_PLACE;
        }
        int least = Law.leastQuota(shelves[d], now);
        int greatest = Law.greatestQuota(shelves[d], now);
        if (what == 0) {
            return Math.max(0, greatest - least + 1);
        }
        if (least > greatest) {
            return NONE;
        }
        return what == 1 ? least : greatest;
    }

    public int whatIs(int d, int s, int what) {
        if (!now.isThere(s) || !isWithin(what, 0, 1)) {
            return NO_SUCH;
        }
        int refusal = refusalOf(d, Shelf.A_ROW);
        if (refusal != 0) {
            return refusal;
        }
        int possible = 0;
        int choices = what == 0 ? KINDS : MOST_FIGURE + 1;
        for (int i = 0; i < choices; i++) {
            mind.become(now);
            if (what == 0) {
                mind.kind[s] = i;
            } else {
                mind.figure[s] = i;
            }
            if (feelsAsTold(shelves[d], s)) {
                possible |= 1 << i;
            }
        }
        return possible;
    }

    public int two(int a, int b) {
        if (!now.isThere(a) || !now.isThere(b) || a == b) {
            return NO_SUCH;
        }
        for (int outA = 0; outA <= 1; outA++) {
            for (int outB = 0; outB <= 1; outB++) {
                if (isContent(a, outA, b, outB) && isContent(b, outB, a, outA)) {
                    return 10 * outA + outB;
                }
            }
        }
        return NONE;
    }

    public long rain(int t, int part) {
        if (!isWithin(t, 2, 20) || !isWithin(part, 0, 1)) {
            return NO_SUCH_APART;
        }
        int heard = now.heardOnes();
        int all = 1 << now.people;
        long carried = 0;
        for (int out = 0; out < all; out++) {
            if (now.whyNot(heard & out) == 0) {
                carried += toThePower(t - 1, Integer.bitCount(out));
            }
        }
        return Fraction.inLeastTerms(carried, toThePower(t, now.people), part);
    }

    public long mean(int part) {
        if (!isWithin(part, 0, 1)) {
            return NO_SUCH_APART;
        }
        int sum = 0;
        for (int s = 0; s < now.people; s++) {
            sum += now.mood[s];
        }
        return Fraction.inLeastTerms(sum, Math.max(1, now.people), part);
    }

    // ---- told streets, streets by seeds

    public int forged(int d) {
        int refusal = refusalOf(d, Shelf.A_ROW);
        if (refusal != 0) {
            return refusal;
        }
        Shelf told = shelves[d];
        for (int b = 0; b < told.size; b++) {
            if (!isBalcony(b) || told.at(b) != now.height[b]) {
                return b;
            }
        }
        return NONE;
    }

    public int judge(int d) {
        int refusal = refusalOf(d, Shelf.A_ROW);
        if (refusal != 0) {
            return refusal;
        }
        Shelf told = shelves[d];
        mind.become(now);
        mind.startDays();
        for (int n = 0; n < told.size; n++) {
            if (n > 0) {
                mind.nextDay();
            }
            if (!told.isSkipped(n) && told.at(n) != oneIf(mind.isCarried())) {
                return n;
            }
        }
        return NONE;
    }

    public int streets(int n, int z, int what) {
        if (!isWithin(n, 1, STREETS_AT_ONCE) || !isWithin(what, 0, 1)) {
            return NO_SUCH;
        }
        int seed = z;
        int carried = 0;
        int weight = 0;
        for (int street = 0; street < n; street++) {
            mind.become(now);
            seed = mind.scatter(seed);
            mind.live(DAYS_OF_A_STREET);
            carried += oneIf(mind.isCarried());
            weight += mind.weightFor(mind.heardOnes());
        }
        return what == 0 ? carried : weight;
    }

    // ---- the image, what is told

    public int image() {
        kept.become(now);
        hasImage = true;
        return now.day;
    }

    public int restore() {
        if (!hasImage) {
            return NOT_AS_IT_MUST;
        }
        now.become(kept);
        return now.day;
    }

    public int count(int what) {
        switch (what) {
            case 0: return now.people;
            case 1: return now.day;
            case 2: return now.needed;
            case 3: return now.heardOnes();
            case 4: return now.onesFor();
            case 5: return now.onesAgainst();
            case 6: return now.shut;
            default: return NO_SUCH;
        }
    }

    // ---- shelves

    public int keep(int d, int what, int k, int figure) {
        if (!isShelf(d) || !isWithin(what, 0, 1)) {
            return NO_SUCH;
        }
        if (what == 0) {
            shelves[d].holds = Shelf.NOTHING;
            return 0;
        }
        if (!isWithin(k, 0, KINDS - 1) || !isWithin(figure, 0, MOST_FIGURE)) {
            return NO_SUCH;
        }
        shelves[d].takeKind(k, figure);
        return 0;
    }

    public int row(int d, int sort, int n) {
        if (!isShelf(d) || !isWithin(sort, 0, SORTS - 1) || n > MOST_ELEMENTS) {
            return NO_SUCH;
        }
        if (n < 0) {
            return SIZE_BELOW_0;
        }
        shelves[d].takeRow(sort, n);
        return 0;
    }

    public int put(int d, int i, int v) {
        int refusal = refusalOf(d, Shelf.A_ROW);
        if (refusal != 0) {
            return refusal;
        }
        if (!shelves[d].hasPlace(i)) {
            return NO_PLACE;
        }
        shelves[d].set(i, v);
        return 0;
    }

    public long element(int d, int i) throws IllegalArgumentException, IllegalStateException {
        if (!isShelf(d)) {
            throw new IllegalArgumentException("no such shelf");
        }
        if (shelves[d].holds != Shelf.A_ROW) {
            throw new IllegalStateException("no row");
        }
        if (!shelves[d].hasPlace(i)) {
            throw new IllegalStateException("no such place");
        }
        return shelves[d].at(i);
    }

    public int copy(int d, int i, int e, int j, int n) {
        if (!isShelf(d) || !isShelf(e)) {
            return NO_SUCH;
        }
        Shelf from = shelves[d];
        Shelf to = shelves[e];
        if (from.holds == Shelf.NOTHING || to.holds == Shelf.NOTHING) {
            return NOTHING_HELD;
        }
        if (from.holds != Shelf.A_ROW || to.holds != Shelf.A_ROW || from.sort != to.sort) {
            return OTHER_KIND;
        }
        if (!from.hasPlaces(i, n) || !to.hasPlaces(j, n)) {
            return NO_PLACE;
        }
        System.arraycopy(from.elements, i, to.elements, j, n);
        return n;
    }

    public int cost(int d) {
        int refusal = refusalOf(d, Shelf.A_KIND);
        if (refusal != 0) {
            return refusal;
        }
        return Kinds.priceOf(shelves[d].kind, shelves[d].figure);
    }

    public int toss(int d) {
        int refusal = refusalOf(d, Shelf.A_KIND);
        if (refusal != 0) {
            return refusal;
        }
        int kind = shelves[d].kind;
        int figure = shelves[d].figure;
        try {
            Kinds.fail(kind, figure);
        } catch (IllegalStateException ofAnOwner) {
            return 200 + Kinds.priceOf(kind, figure);
        } catch (UnsupportedOperationException ofAWidow) {
            return 100 + figure;
        } catch (IllegalArgumentException ofAnother) {
            return figure;
        }
        return NO_FAILURE;
    }

    // ---- what the calls share

    private static int oneIf(boolean so) {
        return so ? 1 : 0;
    }

    private static boolean isWithin(int v, int least, int greatest) {
        return v >= least && v <= greatest;
    }

    private static boolean isBalcony(int b) {
        return isWithin(b, 0, BALCONIES - 1);
    }

    private static boolean isShelf(int d) {
        return isWithin(d, 0, SHELVES - 1);
    }

    /** In mind no day at all may go by, too; days that are lived are 1 at least. */
    private static boolean isSpan(int n) {
        return isWithin(n, 0, MOST_DAYS);
    }

    private static boolean isIn(int group, int s) {
        return (group >> s & 1) != 0;
    }

    private static long toThePower(int base, int exponent) {
        long power = 1;
        for (int i = 0; i < exponent; i++) {
            power *= base;
        }
        return power;
    }

    /** Why what is wanted is not on the shelf; 0 if it is. */
    private int refusalOf(int d, int wanted) {
        if (!isShelf(d)) {
            return NO_SUCH;
        }
        if (shelves[d].holds == Shelf.NOTHING) {
            return NOTHING_HELD;
        }
        return shelves[d].holds == wanted ? 0 : OTHER_KIND;
    }

    private int fewestOfMood(int mood, boolean carried) {
        int heard = now.heardOnes();
        int fewest = NONE;
        for (int group = 0; group <= heard; group++) {
            if ((group & ~heard) == 0 && Groups.isFewer(group, fewest)) {
                mind.become(now);
                mind.think(group, mood);
                if (mind.isCarried() == carried) {
                    fewest = group;
                }
            }
        }
        return fewest;
    }

    /** Whether the one in mind has the moods that the row tells of him, day by day. */
    private boolean feelsAsTold(Shelf told, int s) {
        mind.startDays();
        for (int n = 0; n < told.size; n++) {
            if (n > 0) {
                mind.nextDay();
            }
            if (!told.isSkipped(n) && told.at(n) != mind.mood[s]) {
                return false;
            }
        }
        return true;
    }

    /** Whether one has no more by his other choice, if the other stays with his. */
    private boolean isContent(int one, int out, int other, int otherOut) {
        return gainOf(one, out, other, otherOut) >= gainOf(one, 1 - out, other, otherOut);
    }

    private int gainOf(int one, int out, int other, int otherOut) {
        mind.become(now);
        mind.mood[one] = MOST_MOOD * out;
        mind.mood[other] = MOST_MOOD * otherOut;
        boolean wanted = now.mood[one] > 0;
        return (mind.isCarried() == wanted ? 5 : 0) - out;
    }

    /** What the kinds of speakers have of their own, and what of those they are under. */
    private static final class Kinds {
        static final int WIDOW = 1;
        static final int MUTE = 2;
        static final int TENANT = 3;
        static final int LODGER = 4;
        static final int CHILD = 5;
        static final int OWNER = 6;
        static final int PRIEST = 7;
        private static final int SPEAKER_SWAY = 1;
        private static final int TENANT_SWAY = 2;
        private static final int SPEAKER_PRICE = 2;
        private static final int TENANT_PRICE = SPEAKER_PRICE - 1;

        static int weightOf(int kind, int figure, int height) {
            switch (kind) {
                case WIDOW: return 2 * height;
                case MUTE: return figure / 3;
                case TENANT: return height;
                case LODGER: return height / 2;
                case CHILD: return 9;
                case OWNER: return 2 * height + figure;
                case PRIEST: return 3 + figure / 2;
                default: return 1 + height;
            }
        }

        static boolean isVeto(int kind, int mood) {
            return kind == OWNER && mood < 0 || kind == PRIEST && mood <= -5;
        }

        static int swayOf(int kind, int figure) {
            switch (kind) {
                case WIDOW:
                case OWNER: return 0;
                case TENANT: return TENANT_SWAY;
                case LODGER: return TENANT_SWAY + figure / 3;
                case CHILD: return 3;
                default: return SPEAKER_SWAY;
            }
        }

        static int priceOf(int kind, int figure) {
            switch (kind) {
                case WIDOW: return widowPrice(figure);
                case MUTE: return 0;
                case TENANT: return TENANT_PRICE;
                case LODGER: return TENANT_PRICE / 2;
                case CHILD: return 1;
                case OWNER: return 2 * widowPrice(figure);
                case PRIEST: return 9;
                default: return SPEAKER_PRICE;
            }
        }

        private static int widowPrice(int figure) {
            return SPEAKER_PRICE + figure;
        }

        /** The exception's class tells whose failure it is; who has none comes back. */
        static void fail(int kind, int figure) {
            if (figure == 0 || kind == MUTE || kind == CHILD) {
                return;
            }
            if (kind == OWNER) {
                throw new IllegalStateException("an owner fails");
            }
            if (kind == WIDOW) {
                throw new UnsupportedOperationException("a widow fails");
            }
            throw new IllegalArgumentException("a speaker fails");
        }
    }

    /** A street with all that there is on it, but for shelves and the image. */
    private static final class Street {
        final int[] height = new int[BALCONIES];
        final int[] kind = new int[MOST_PEOPLE];
        final int[] figure = new int[MOST_PEOPLE];
        final int[] rail = new int[MOST_PEOPLE];
        final int[] mood = new int[MOST_PEOPLE];
        /** Whom each one looks at in a run of days (bits), and whether moods still change in it. */
        private final int[] sight = new int[MOST_PEOPLE];
        private boolean moving;
        /** Bits of balconies. */
        int shut;
        int people;
        int needed;
        int day;

        Street() {
            for (int b = 0; b < BALCONIES; b++) {
                height[b] = b / 2;
            }
            needed = FIRST_QUOTA;
        }

        void become(Street other) {
            System.arraycopy(other.height, 0, height, 0, BALCONIES);
            System.arraycopy(other.kind, 0, kind, 0, MOST_PEOPLE);
            System.arraycopy(other.figure, 0, figure, 0, MOST_PEOPLE);
            System.arraycopy(other.rail, 0, rail, 0, MOST_PEOPLE);
            System.arraycopy(other.mood, 0, mood, 0, MOST_PEOPLE);
            shut = other.shut;
            people = other.people;
            needed = other.needed;
            day = other.day;
        }

        boolean isThere(int s) {
            return s >= 0 && s < people;
        }

        boolean areThere(int group) {
            return group >= 0 && group < 1 << people;
        }

        boolean hasRoom() {
            return people < MOST_PEOPLE;
        }

        boolean hasDaysLeft(int n) {
            return day + n <= MOST_DAY;
        }

        void admit(int newKind, int newFigure, int b) {
            if (!hasRoom()) {
                return;
            }
            kind[people] = newKind;
            figure[people] = newFigure;
            rail[people] = b;
            mood[people] = 0;
            people++;
        }

        boolean isShut(int b) {
            return isIn(shut, b);
        }

        void turnShutter(int b) {
            shut ^= 1 << b;
        }

        void think(int group, int newMood) {
            for (int s = 0; s < people; s++) {
                if (isIn(group, s)) {
                    mood[s] = newMood;
                }
            }
        }

        boolean isHeard(int s) {
            return !isIn(shut, rail[s]);
        }

        int weightOf(int s) {
            return Kinds.weightOf(kind[s], figure[s], height[rail[s]]);
        }

        int weightAt(int s, int h) {
            return Kinds.weightOf(kind[s], figure[s], h);
        }

        int onesOn(int b) {
            int ones = 0;
            for (int s = 0; s < people; s++) {
                if (rail[s] == b) {
                    ones |= 1 << s;
                }
            }
            return ones;
        }

        int heardOnes() {
            int ones = 0;
            for (int s = 0; s < people; s++) {
                if (isHeard(s)) {
                    ones |= 1 << s;
                }
            }
            return ones;
        }

        int onesFor() {
            int ones = 0;
            for (int s = 0; s < people; s++) {
                if (mood[s] > 0) {
                    ones |= 1 << s;
                }
            }
            return ones;
        }

        int onesAgainst() {
            int ones = 0;
            for (int s = 0; s < people; s++) {
                if (mood[s] < 0) {
                    ones |= 1 << s;
                }
            }
            return ones;
        }

        int weightOfAll(int group) {
            int sum = 0;
            for (int s = 0; s < people; s++) {
                if (isIn(group, s)) {
                    sum += weightOf(s);
                }
            }
            return sum;
        }

        /** Bits of the sides on which somebody of them stands. */
        int sidesOf(int group) {
            int sides = 0;
            for (int s = 0; s < people; s++) {
                if (isIn(group, s)) {
                    sides |= 1 << rail[s] % 2;
                }
            }
            return sides;
        }

        int weightFor(int heard) {
            return weightOfAll(heard & onesFor());
        }

        /** 0 if it carries with just these heard, else the first thing that hinders it. */
        int whyNot(int heard) {
            int ones = heard & onesFor();
            int sides = sidesOf(ones);
            if ((sides & 1) == 0) {
                return 1;
            }
            if ((sides & 2) == 0) {
                return 2;
            }
            if (weightOfAll(ones) < needed) {
                return 3;
            }
            return isVetoed(heard) ? 4 : 0;
        }

        private boolean isVetoed(int heard) {
            for (int s = 0; s < people; s++) {
                if (isIn(heard, s) && Kinds.isVeto(kind[s], mood[s])) {
                    return true;
                }
            }
            return false;
        }

        boolean isCarried() {
            return whyNot(heardOnes()) == 0;
        }

        boolean isInSight(int s, int other) {
            int apart = Math.abs(height[rail[s]] - height[rail[other]]);
            return rail[s] % 2 != rail[other] % 2 && apart <= 1;
        }

        int twosInSight() {
            int twos = 0;
            for (int s = 0; s < people; s++) {
                for (int other = s + 1; other < people; other++) {
                    if (isInSight(s, other)) {
                        twos++;
                    }
                }
            }
            return twos;
        }

        int loudest() {
            int best = NONE;
            int most = -1;
            for (int s = 0; s < people; s++) {
                if (isHeard(s) && weightOf(s) > most) {
                    best = s;
                    most = weightOf(s);
                }
            }
            return best;
        }

        /**
         * Ahead of each run of days: while days go by nobody moves and nothing is built or shut,
         * so that who sees whom is looked up once.
         */
        void startDays() {
            moving = true;
            for (int s = 0; s < people; s++) {
                sight[s] = 0;
                for (int other = 0; other < people; other++) {
                    if (isHeard(other) && isInSight(s, other)) {
                        sight[s] |= 1 << other;
                    }
                }
            }
        }

        /** Whether a mood changed on that day: once none does, none ever does in this run. */
        boolean nextDay() {
            day++;
            if (!moving) {
                return false;
            }
            moving = false;
            for (int s = 0; s < people; s++) {
                int next = moodBehindLook(s);
                if (next != mood[s]) {
                    mood[s] = next;
                    moving = true;
                }
            }
            return moving;
        }

        private int moodBehindLook(int s) {
            int seen = Integer.bitCount(sight[s]);
            if (seen == 0) {
                return mood[s];
            }
            int sum = 0;
            for (int other = 0; other < people; other++) {
                if (isIn(sight[s], other)) {
                    sum += mood[other];
                }
            }
            int sway = Kinds.swayOf(kind[s], figure[s]);
            return mood[s] + Math.max(-sway, Math.min(sway, sum / seen - mood[s]));
        }

        void live(int n) {
            startDays();
            for (int i = 0; i < n; i++) {
                nextDay();
            }
        }

        /** On how many of the next n days it carries at their end. The days go by. */
        int carriedDays(int n) {
            startDays();
            int carried = 0;
            boolean carriesThen = isCarried();
            for (int i = 0; i < n; i++) {
                if (nextDay()) {
                    carriesThen = isCarried();
                }
                carried += oneIf(carriesThen);
            }
            return carried;
        }

        /** Everybody by chance somewhere, in some mood. Answers the seed as it is then. */
        int scatter(int seed) {
            int z = seed;
            for (int s = 0; s < people; s++) {
                z = Chance.next(z);
                rail[s] = Chance.below(z, BALCONIES);
                z = Chance.next(z);
                mood[s] = Chance.below(z, 2 * MOST_MOOD + 1) - MOST_MOOD;
            }
            return z;
        }
    }

    /** Draws by a seed. */
    private static final class Chance {
        static int next(int z) {
            return z * 1103515245 + 12345;
        }

        static int below(int z, int n) {
            return n < 1 ? 0 : (z & 0x7fffffff) / 65536 % n;
        }
    }

    /** Who together could carry it, were just these for it. Groups here are of those heard. */
    private static final class Groups {
        static boolean isEnough(Street street, int group) {
            return isCrossing(street, group) && street.weightOfAll(group) >= street.needed;
        }

        static boolean isCrossing(Street street, int group) {
            return street.sidesOf(group) == 3;
        }

        static boolean isTurnedBy(Street street, int group, int s) {
            return isIn(group, s)
                && isEnough(street, group)
                && !isEnough(street, group & ~(1 << s));
        }

        /** Groups are tried from the least number on, so that of equally many the first stays. */
        static boolean isFewer(int group, int fewest) {
            return fewest == NONE || Integer.bitCount(group) < Integer.bitCount(fewest);
        }

        static int smallest(Street street) {
            int heard = street.heardOnes();
            int fewest = NONE;
            for (int group = 0; group <= heard; group++) {
                if ((group & ~heard) == 0 && isFewer(group, fewest) && isEnough(street, group)) {
                    fewest = group;
                }
            }
            return fewest;
        }

        static int leastOnes(Street street) {
            int heard = street.heardOnes();
            int least = 0;
            for (int group = 0; group <= heard; group++) {
                if ((group & ~heard) == 0 && isLeast(street, group)) {
                    least++;
                }
            }
            return least;
        }

        private static boolean isLeast(Street street, int group) {
            if (!isEnough(street, group)) {
                return false;
            }
            for (int s = 0; s < street.people; s++) {
                if (isIn(group, s) && isEnough(street, group & ~(1 << s))) {
                    return false;
                }
            }
            return true;
        }

        static int blocks(Street street) {
            int heard = street.heardOnes();
            int ones = 0;
            for (int s = 0; s < street.people; s++) {
                if (isIn(heard, s) && !isEnough(street, heard & ~(1 << s))) {
                    ones |= 1 << s;
                }
            }
            return ones;
        }

        static int turnedGroups(Street street, int s) {
            int heard = street.heardOnes();
            int turned = 0;
            for (int group = 0; group <= heard; group++) {
                if ((group & ~heard) == 0 && isTurnedBy(street, group, s)) {
                    turned++;
                }
            }
            return turned;
        }

        /** In how many orders of those heard he is the one who turns it. */
        static long ordersTurned(Street street, int s) {
            int heard = street.heardOnes();
            int all = Integer.bitCount(heard);
            long orders = 0;
            for (int group = 0; group <= heard; group++) {
                if ((group & ~heard) == 0 && isTurnedBy(street, group, s)) {
                    int upToHim = Integer.bitCount(group);
                    orders += ordersOf(upToHim - 1) * ordersOf(all - upToHim);
                }
            }
            return orders;
        }

        static long ordersOfHeard(Street street) {
            return ordersOf(Integer.bitCount(street.heardOnes()));
        }

        private static long ordersOf(int n) {
            long orders = 1;
            for (int i = 2; i <= n; i++) {
                orders *= i;
            }
            return orders;
        }
    }

    /** Fractions in least terms; the line below is above 0 everywhere. */
    private static final class Fraction {
        static long inLeastTerms(long above, long below, int part) {
            long common = commonDivisor(Math.abs(above), below);
            if (common < 1) {
                return part == 0 ? above : below;
            }
            return part == 0 ? above / common : below / common;
        }

        private static long commonDivisor(long a, long b) {
            long greater = a;
            long lesser = b;
            for (int step = 0; step < 100 && lesser != 0; step++) {
                long rest = greater % lesser;
                greater = lesser;
                lesser = rest;
            }
            return greater;
        }
    }

    /** Everybody on a rail of his own, so that all weigh most together. */
    private static final class Rails {
        /** By the rails taken (bits): the most that those who have none yet can weigh. */
        private final int[] rest = new int[1 << BALCONIES];
        private final int[][] weight = new int[MOST_PEOPLE][BALCONIES];
        private int people;

        void weigh(Street street) {
            people = street.people;
            for (int s = 0; s < people; s++) {
                for (int b = 0; b < BALCONIES; b++) {
                    weight[s][b] = street.weightAt(s, street.height[b]);
                }
            }
            for (int taken = rest.length - 1; taken >= 0; taken--) {
                rest[taken] = mostBehind(taken);
            }
        }

        /** Speakers take rails by numbers, so that as many are served as rails are taken. */
        private int mostBehind(int taken) {
            int s = Integer.bitCount(taken);
            int most = 0;
            if (s >= people) {
                return most;
            }
            for (int b = 0; b < BALCONIES; b++) {
                if (!isIn(taken, b)) {
                    most = Math.max(most, weight[s][b] + rest[taken | 1 << b]);
                }
            }
            return most;
        }

        int mostWeight() {
            return rest[0];
        }

        int railOf(int one) {
            int taken = 0;
            int rail = NONE;
            for (int s = 0; s <= one && s < people; s++) {
                rail = firstBestRail(s, taken);
                taken |= 1 << rail;
            }
            return rail;
        }

        private int firstBestRail(int s, int taken) {
            for (int b = 0; b < BALCONIES; b++) {
                if (!isIn(taken, b) && weight[s][b] + rest[taken | 1 << b] == rest[taken]) {
                    return b;
                }
            }
            return 0;
        }
    }

    /**
     * Quotas by which told groups carried or not. Each group that crosses bounds them from one
     * side alone, so that they are all those from a least to a greatest one.
     */
    private static final class Law {
        static boolean isTold(Shelf told, Street street) {
            if (told.size % 2 != 0) {
                return false;
            }
            for (int i = 0; i < told.size; i += 2) {
                if (!street.areThere(told.at(i)) || !isWithin(told.at(i + 1), 0, 1)) {
                    return false;
                }
            }
            return true;
        }

        static int leastQuota(Shelf told, Street street) {
            int heard = street.heardOnes();
            int least = 1;
            for (int i = 0; i < told.size; i += 2) {
                int group = told.at(i) & heard;
                if (told.at(i + 1) == 0 && Groups.isCrossing(street, group)) {
                    least = Math.max(least, street.weightOfAll(group) + 1);
                }
            }
            return least;
        }

        /** Below 1, if a group is told to have carried that doesn't cross. */
        static int greatestQuota(Shelf told, Street street) {
            int heard = street.heardOnes();
            int greatest = MOST_QUOTA;
            for (int i = 0; i < told.size; i += 2) {
                int group = told.at(i) & heard;
                if (told.at(i + 1) == 1) {
                    int most = Groups.isCrossing(street, group) ? street.weightOfAll(group) : 0;
                    greatest = Math.min(greatest, most);
                }
            }
            return greatest;
        }
    }

    /** The text of a quarter. */
    private static final class Script {
        private static final int NO_FAULT = -1;
        private static final int A_LETTER = -1;

        /** How many statements, or the fault; behind a fault the street is of no more use. */
        static int play(Shelf text, Street street) {
            int unfit = placeOfUnfitByte(text);
            if (unfit != NO_FAULT) {
                return -1000 - unfit;
            }
            int statements = 0;
            for (int at = 0; at < text.size; at += digitsBehind(text.at(at)) + 2) {
                if (!tryStatement(text, at, street)) {
                    return -2000 - at;
                }
                statements++;
            }
            return statements;
        }

        private static int placeOfUnfitByte(Shelf text) {
            int awaited = A_LETTER;
            for (int at = 0; at < text.size; at++) {
                int sign = text.at(at);
                if (awaited == A_LETTER) {
                    awaited = digitsBehind(sign);
                    if (awaited < 1) {
                        return at;
                    }
                } else if (awaited > 0) {
                    if (!isWithin(sign, '0', '9')) {
                        return at;
                    }
                    awaited--;
                } else {
                    if (sign != ';') {
                        return at;
                    }
                    awaited = A_LETTER;
                }
            }
            return text.size > 0 && awaited == A_LETTER ? NO_FAULT : text.size;
        }

        /** 0 for what is no letter of a statement. */
        private static int digitsBehind(int letter) {
            switch (letter) {
                case 'o': return 1;
                case 'b':
                case 'f':
                case 'a':
                case 'q':
                case 'd': return 2;
                case 's': return 3;
                default: return 0;
            }
        }

        /** Each try does what its statement says, or answers that it can't be done. */
        private static boolean tryStatement(Shelf text, int at, Street street) {
            int first = text.at(at + 1) - '0';
            int second = text.at(at + 2) - '0';
            int number = 10 * first + second;
            switch (text.at(at)) {
                case 'b': return tryHeight(street, first, second);
                case 's': return tryToAdmit(street, first, second, text.at(at + 3) - '0');
                case 'f': return tryMood(street, first, second);
                case 'a': return tryMood(street, first, -second);
                case 'o': return tryShutter(street, first);
                case 'q': return tryQuota(street, number);
                default: return tryDays(street, number);
            }
        }

        private static boolean tryHeight(Street street, int b, int height) {
            if (!isBalcony(b) || !isWithin(height, 0, MOST_HEIGHT)) {
                return false;
            }
            street.height[b] = height;
            return true;
        }

        private static boolean tryToAdmit(Street street, int kind, int figure, int b) {
            if (!isWithin(kind, 0, KINDS - 1) || !isBalcony(b) || !street.hasRoom()) {
                return false;
            }
            street.admit(kind, figure, b);
            return true;
        }

        private static boolean tryMood(Street street, int s, int mood) {
            if (!street.isThere(s)) {
                return false;
            }
            street.mood[s] = mood;
            return true;
        }

        private static boolean tryShutter(Street street, int b) {
            if (!isBalcony(b)) {
                return false;
            }
            street.turnShutter(b);
            return true;
        }

        private static boolean tryQuota(Street street, int quota) {
            if (!isWithin(quota, 1, MOST_QUOTA)) {
                return false;
            }
            street.needed = quota;
            return true;
        }

        private static boolean tryDays(Street street, int n) {
            if (!isWithin(n, 1, MOST_DAYS) || !street.hasDaysLeft(n)) {
                return false;
            }
            street.live(n);
            return true;
        }
    }

    /** Holds nothing, a kind of speaker or a row; the row's places are made once for all rows. */
    private static final class Shelf {
        static final int NOTHING = 0;
        static final int A_KIND = 1;
        static final int A_ROW = 2;
        static final int BYTES = 0;
        static final int SHORTS = 1;

        final int[] elements = new int[MOST_ELEMENTS];
        int holds;
        int kind;
        int figure;
        int sort;
        int size;

        void takeKind(int newKind, int newFigure) {
            holds = A_KIND;
            kind = newKind;
            figure = newFigure;
        }

        void takeRow(int newSort, int newSize) {
            holds = A_ROW;
            sort = newSort;
            size = newSize;
            for (int i = 0; i < MOST_ELEMENTS; i++) {
                elements[i] = 0;
            }
        }

        boolean hasPlace(int i) {
            return i >= 0 && i < size;
        }

        /** Whether n places from i on are there; behind the last one there are still 0 of them. */
        boolean hasPlaces(int i, int n) {
            return i >= 0 && n >= 0 && n <= size - i;
        }

        int at(int i) {
            return hasPlace(i) ? elements[i] : 0;
        }

        void set(int i, int v) {
            if (hasPlace(i)) {
                elements[i] = lowestBits(v);
            }
        }

        private int lowestBits(int v) {
            switch (sort) {
                case BYTES: return (byte) v;
                case SHORTS: return (short) v;
                default: return v;
            }
        }

        boolean isSkipped(int i) {
            return at(i) == leastOfSort();
        }

        private int leastOfSort() {
            switch (sort) {
                case BYTES: return -128;
                case SHORTS: return -32768;
                default: return -2147483648;
            }
        }
    }
}
