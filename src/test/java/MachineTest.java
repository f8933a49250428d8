import java.util.Random;

/**
 * Wild arguments in wild states: the machine itself throws nothing, refused calls change nothing,
 * and calls that only look change nothing either.
 */
public final class MachineTest {
    private static final Due DUE = new Due();
    private static final String[] NAMES = {
        "quarter", "speaker", "balcony", "comes", "builds", "shuts", "thinks", "goes", "quota",
        "days", "carries", "moodThen", "then", "when", "holds", "could", "power", "groups", "swings",
        "win", "guest", "shutter", "quotaMost", "rent", "bestRail", "match", "lines", "law",
        "whatIs", "two", "rain", "mean", "forged", "judge", "streets", "image", "restore", "count",
        "keep", "row", "put", "element", "copy", "cost", "toss"
    };
    private static final String LOOKING = " speaker balcony carries moodThen then when holds could"
        + " power groups swings win guest shutter quotaMost rent bestRail match lines law whatIs two"
        + " rain mean forged judge streets image count element cost toss ";
    private static final int[] EDGES = {
        Integer.MIN_VALUE, Integer.MIN_VALUE + 1, -32769, -101, -10, -9, -2, -1, 0, 1, 2, 3, 4, 5, 6,
        7, 8, 9, 10, 11, 20, 21, 31, 32, 33, 59, 60, 61, 99, 100, 101, 127, 128, 999, 1000, 65536,
        Integer.MAX_VALUE - 1, Integer.MAX_VALUE
    };

    public static void main(String[] args) {
        Random chance = new Random(17);
        for (int run = 0; run < 300; run++) {
            play(chance);
        }
        DUE.end("MachineTest");
    }

    private static void play(Random chance) {
        BalconiesParliament x = new BalconiesParliament();
        for (int s = 0; s < chance.nextInt(9); s++) {
            x.keep(s % 8, 1, chance.nextInt(8), chance.nextInt(10));
            x.comes(s % 8, chance.nextInt(10));
            x.thinks(s, chance.nextInt(19) - 9);
        }
        x.row(6, chance.nextInt(3), chance.nextInt(101));
        x.row(7, chance.nextInt(3), chance.nextInt(20));
        for (int call = 0; call < 400; call++) {
            String name = NAMES[chance.nextInt(NAMES.length)];
            int[] a = new int[5];
            for (int i = 0; i < 5; i++) {
                a[i] = chance.nextInt(3) == 0 ? EDGES[chance.nextInt(EDGES.length)] : chance.nextInt(10);
            }
            String before = State.of(x);
            long answer = ask(x, name, a);
            boolean refused = answer < 0 && answer != Long.MIN_VALUE && !name.equals("thinks")
                || answer == 1000000001;
            if (refused || LOOKING.contains(" " + name + " ")) {
                DUE.so(name + " changes nothing", State.of(x).equals(before));
            }
        }
    }

    private static long ask(BalconiesParliament x, String name, int[] a) {
        try {
            return Calls.ask(x, name, a);
        } catch (RuntimeException thrown) {
            DUE.so(name + java.util.Arrays.toString(a) + " threw " + thrown, false);
            return Long.MIN_VALUE;
        }
    }
}
