import java.util.Random;

/**
 * Long runs of calls by fixed seeds, each answer held against the oracle's. Texts and rows are told
 * by many puts, so these come in bundles that are not told apart here.
 */
public final class ModelTest {
    private static final int[] WILD = {
        Integer.MIN_VALUE, -32768, -1000, -129, -10, -3, -2, -1, 8, 10, 11, 61, 100, 101, 128, 1000,
        65536, Integer.MAX_VALUE - 1, Integer.MAX_VALUE
    };

    private final Random chance;
    private final Due due;
    private final BalconiesParliament x = new BalconiesParliament();
    private final Oracle o = new Oracle();
    private final String run;
    private int calls = 0;

    private ModelTest(long seed, Due due) {
        this.chance = new Random(seed);
        this.due = due;
        this.run = "run " + seed + ", call ";
    }

    public static void main(String[] args) {
        int runs = args.length > 0 ? Integer.parseInt(args[0]) : 400;
        Due due = new Due();
        for (int seed = 1; seed <= runs; seed++) {
            ModelTest test = new ModelTest(seed, due);
            test.play(seed % 4 != 0);
        }
        due.end("ModelTest");
    }

    /** A number from 0 below n, now and then one that is beside it or far from it. */
    private int arg(int n) {
        int dice = chance.nextInt(40);
        if (dice == 0) {
            return WILD[chance.nextInt(WILD.length)];
        }
        if (dice == 1) {
            return chance.nextBoolean() ? -1 : n;
        }
        return chance.nextInt(n);
    }

    private void play(boolean crowded) {
        if (crowded) {
            for (int s = 0; s < 7 - chance.nextInt(3); s++) {
                say("keep", 1 + chance.nextInt(7), 1, chance.nextInt(8), chance.nextInt(10));
                for (int d = 0; d < 8; d++) {
                    say("comes", d, chance.nextInt(10));
                }
                say("thinks", s, chance.nextInt(19) - 9);
            }
            say("quota", 1 + chance.nextInt(40));
        }
        while (calls < 480 && due.wrong() == 0) {
            step();
        }
    }

    private int someone() {
        return arg(Math.max(1, o.now.ones.size()));
    }

    private void step() {
        switch (chance.nextInt(52)) {
            case 0 -> readText();
            case 1 -> say("speaker", someone(), arg(7));
            case 2 -> say("balcony", arg(10), arg(3));
            case 3 -> say("comes", arg(8), arg(10));
            case 4 -> say("builds", arg(10), arg(8));
            case 5 -> say("shuts", arg(10));
            case 6, 7 -> say("thinks", someone(), arg(19) - 9);
            case 8, 9 -> say("goes", someone(), arg(10));
            case 10 -> say("quota", arg(3) == 0 ? arg(100) : 1 + arg(25));
            case 11 -> say("days", arg(61));
            case 12 -> say("days", 1 + arg(3));
            case 13 -> say("carries", arg(4));
            case 14 -> say("moodThen", someone(), arg(61));
            case 15 -> say("moodThen", someone(), arg(5));
            case 16 -> say("then", arg(61), arg(2));
            case 17 -> say("when");
            case 18 -> say("holds", arg(61));
            case 19 -> say("could", arg(1 << o.now.ones.size()));
            case 20 -> power();
            case 21 -> say("groups", arg(3));
            case 22 -> say("swings", someone());
            case 23 -> say("win", arg(2));
            case 24 -> say("guest", someone(), arg(12), arg(2));
            case 25 -> say("shutter", arg(12));
            case 26 -> say("quotaMost");
            case 27 -> say("rent", someone(), arg(10));
            case 28 -> say("bestRail", someone());
            case 29 -> match();
            case 30 -> say("lines", arg(2));
            case 31 -> tellLaw();
            case 32 -> tellMoods();
            case 33 -> say("two", someone(), someone());
            case 34 -> say("rain", arg(21), arg(2));
            case 35 -> say("mean", arg(2));
            case 36 -> tellHeights();
            case 37 -> tellCarried();
            case 38 -> say("streets", arg(21), chance.nextInt(), arg(2));
            case 39 -> say("image");
            case 40 -> say("restore");
            case 41 -> say("count", arg(7));
            case 42, 43 -> say("keep", arg(8), arg(2), arg(8), arg(10));
            case 44 -> say("row", arg(8), arg(3), arg(101));
            case 45 -> say("row", arg(8), arg(2), arg(8));
            case 46 -> say("put", arg(8), arg(8), chance.nextInt());
            case 47 -> say("element", arg(8), arg(10));
            case 48 -> say("copy", arg(8), arg(4), arg(8), arg(4), arg(5));
            case 49 -> say("cost", arg(8));
            case 50 -> say("toss", arg(8));
            default -> rowless();
        }
    }

    /** The calls on rows, on whatever the shelf happens to hold. */
    private void rowless() {
        int d = arg(8);
        switch (chance.nextInt(5)) {
            case 0 -> say("quarter", d);
            case 1 -> say("law", d, arg(3));
            case 2 -> say("whatIs", d, someone(), arg(2));
            case 3 -> say("forged", d);
            default -> say("judge", d);
        }
    }

    /** All orders one by one are dear where many are heard. */
    private void power() {
        if (Integer.bitCount(o.now.heardBits()) < 7 || chance.nextInt(5) == 0) {
            say("power", someone(), arg(2));
        }
    }

    private void match() {
        if (o.now.ones.size() < 6 || chance.nextInt(30) == 0) {
            say("match", arg(8) - 1);
        }
    }

    private void tell(int d, int sort, int[] elements) {
        say("row", d, sort, elements.length);
        for (int i = 0; i < elements.length; i++) {
            say("put", d, i, elements[i]);
        }
        calls -= elements.length;
    }

    private void readText() {
        StringBuilder text = new StringBuilder();
        int statements = 1 + chance.nextInt(7);
        for (int i = 0; i < statements; i++) {
            char letter = "bsfaoqdfa".charAt(chance.nextInt(9));
            text.append(letter);
            int digits = letter == 's' ? 3 : letter == 'o' ? 1 : 2;
            for (int k = 0; k < digits; k++) {
                boolean one = k == 0 && (letter == 'f' || letter == 'a');
                int greatest = one ? Math.max(1, o.now.ones.size()) : k == 0 && letter == 'd' ? 2 : 9;
                text.append((char) ('0' + chance.nextInt(greatest)));
            }
            text.append(';');
        }
        int dice = chance.nextInt(6);
        if (dice == 0) {
            text.setLength(chance.nextInt(text.length()));
        } else if (dice == 1) {
            text.setCharAt(chance.nextInt(text.length()), (char) chance.nextInt(256));
        } else if (dice == 2) {
            text.setCharAt(chance.nextInt(text.length()), "bsfaoqd;0123456789/:".charAt(chance.nextInt(20)));
        }
        int[] bytes = new int[text.length()];
        for (int i = 0; i < bytes.length; i++) {
            bytes[i] = text.charAt(i);
        }
        tell(0, 0, bytes);
        say("quarter", 0);
        for (int what = 0; what < 7; what++) {
            say("count", what);
        }
    }

    private void tellLaw() {
        int[] row = new int[2 * chance.nextInt(5)];
        for (int i = 0; i + 1 < row.length; i += 2) {
            row[i] = chance.nextInt(1 << o.now.ones.size());
            row[i + 1] = o.now.could(row[i], 12) != (chance.nextInt(9) == 0) ? 1 : 0;
        }
        if (row.length > 0 && chance.nextInt(6) == 0) {
            row[chance.nextInt(row.length)] = chance.nextInt(300) - 100;
        }
        tell(chance.nextInt(8), chance.nextInt(3), row);
        for (int d = 0; d < 8; d++) {
            say("law", d, chance.nextInt(3));
        }
    }

    private void tellMoods() {
        if (o.now.ones.isEmpty()) {
            return;
        }
        int s = chance.nextInt(o.now.ones.size());
        int sort = chance.nextInt(3);
        Oracle.Town town = o.now.twin();
        if (chance.nextBoolean()) {
            town.ones.get(s).kind = Oracle.NAMES[chance.nextInt(8)];
        }
        int[] row = new int[chance.nextInt(chance.nextInt(10) == 0 ? 101 : 8)];
        for (int i = 0; i < row.length; i++) {
            row[i] = chance.nextInt(6) == 0 ? Oracle.leastOf(sort) : town.ones.get(s).mood;
            town.oneDay();
        }
        int d = chance.nextInt(8);
        tell(d, sort, row);
        say("whatIs", d, s, 0);
        say("whatIs", d, s, 1);
    }

    private void tellHeights() {
        int[] row = new int[chance.nextInt(12)];
        for (int b = 0; b < row.length; b++) {
            row[b] = b < 10 ? o.now.heights[b] + chance.nextInt(15) / 14 : 0;
        }
        int d = chance.nextInt(8);
        tell(d, chance.nextInt(3), row);
        say("forged", d);
    }

    private void tellCarried() {
        int sort = chance.nextInt(3);
        int[] row = new int[chance.nextInt(chance.nextInt(10) == 0 ? 101 : 10)];
        for (int i = 0; i < row.length; i++) {
            row[i] = o.now.after(i).carries() != (chance.nextInt(20) == 0) ? 1 : 0;
            if (chance.nextInt(8) == 0) {
                row[i] = Oracle.leastOf(sort);
            }
        }
        int d = chance.nextInt(8);
        tell(d, sort, row);
        say("judge", d);
    }

    private void say(String name, int... a) {
        StringBuilder call = new StringBuilder(run).append(calls++).append(": ").append(name).append('(');
        for (int i = 0; i < a.length; i++) {
            call.append(i == 0 ? "" : ", ").append(a[i]);
        }
        due.is(call.append(')').toString(), Calls.ask(x, name, a), Calls.ask(o, name, a));
    }
}
