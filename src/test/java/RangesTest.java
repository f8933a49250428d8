/**
 * "REFUSALS: -1 no such one, a number out of its range": of each number of each call all from the
 * least to the greatest are taken; the next ones on either side, and numbers far off, are refused
 * and change nothing.
 */
public final class RangesTest {
    private static final Due DUE = new Due();
    private static final int NO_SUCH = -1;
    /** No refusal of a number: of those that are asked for there is none. */
    private static final int NONE = -4;
    private static final long APART = 1000000001L;
    /** With 256 or 65536 among them: within again, if only the lowest bits were looked at. */
    private static final int[] FAR = {
        Integer.MIN_VALUE, Integer.MIN_VALUE + 1, -65536, -32768, -256, -128,
        256, 257, 65536, 65537, Integer.MAX_VALUE - 1, Integer.MAX_VALUE
    };

    public static void main(String[] args) {
        speakers();
        balconies();
        shelves();
        heightsMoodsQuotasDays();
        daysInMind();
        partsAndOddsAndStreets();
        whats();
        kindsFiguresRows();
        groups();
        placesOfRows();
        DUE.end("RangesTest");
    }

    /** On each shelf what the call wants; so many tenants, one on each balcony. */
    private static BalconiesParliament streetFor(String call, int people) {
        BalconiesParliament x = new BalconiesParliament();
        x.keep(0, 1, 3, 4);
        for (int s = 0; s < people; s++) {
            x.comes(0, s);
        }
        for (int d = 0; d < 8; d++) {
            switch (call) {
                case "comes", "cost", "toss" -> x.keep(d, 1, 0, 5);
                case "quarter" -> Due.tell(x, d, 0, 'o', '3', ';');
                case "put", "element", "copy" -> Due.tell(x, d, 1, 4, 3, 2, 1, 0);
                default -> x.row(d, 0, 0);
            }
        }
        return x;
    }

    private static void taken(String call, int[] args, int people) {
        long answer = Calls.ask(streetFor(call, people), call, args);
        boolean refused = answer < 0 && answer != NONE || answer == APART
            || answer == Oracle.ILLEGAL_ARGUMENT || answer == Oracle.ILLEGAL_STATE;
        DUE.so(call + java.util.Arrays.toString(args) + " of " + people + " is taken, not " + answer, !refused);
    }

    private static void refused(String call, int[] args, int people, long refusal) {
        BalconiesParliament x = streetFor(call, people);
        String before = State.of(x);
        String label = call + java.util.Arrays.toString(args) + " of " + people;
        DUE.is(label, Calls.ask(x, call, args), refusal);
        DUE.so(label + " changes nothing", State.of(x).equals(before));
    }

    /** Numbers at a place of a call's arguments, the others being as in valid. */
    private static void range(String call, int people, int[] valid, int place, int least, int greatest,
            long below, long above) {
        int[] args = valid.clone();
        for (int v = least; v <= greatest; v++) {
            args[place] = v;
            taken(call, args, people);
        }
        args[place] = least - 1;
        refused(call, args, people, below);
        args[place] = greatest + 1;
        refused(call, args, people, above);
        for (int far : FAR) {
            if (far < least || far > greatest) {
                args[place] = far;
                refused(call, args, people, far < least ? below : above);
            }
        }
    }

    private static void range(String call, int[] valid, int place, int least, int greatest) {
        range(call, 3, valid, place, least, greatest, NO_SUCH, NO_SUCH);
    }

    private static void apart(String call, int[] valid, int place, int least, int greatest) {
        range(call, 3, valid, place, least, greatest, APART, APART);
    }

    private static int[] of(int... args) {
        return args;
    }

    /** "SPEAKERS 0 .. 6 as they come (7 at most)": with n of them 0 .. n - 1 are there. */
    private static void speaker(String call, long refusal, int place, int... valid) {
        int[] args = valid.clone();
        args[place] = 0;
        refused(call, args, 0, refusal);
        for (int people = 1; people <= 7; people++) {
            range(call, people, valid, place, 0, people - 1, refusal, refusal);
        }
    }

    private static void speakers() {
        speaker("speaker", NO_SUCH, 0, 0, 0);
        speaker("thinks", APART, 0, 0, 0);
        speaker("goes", NO_SUCH, 0, 0, 0);
        speaker("moodThen", APART, 0, 0, 0);
        speaker("power", APART, 0, 0, 0);
        speaker("swings", NO_SUCH, 0, 0);
        speaker("guest", NO_SUCH, 0, 0, 1, 0);
        speaker("rent", APART, 0, 0, 0);
        speaker("bestRail", NO_SUCH, 0, 0);
        speaker("whatIs", NO_SUCH, 1, 0, 0, 0);
        for (int people = 0; people <= 7; people++) {
            range("match", people, of(0), 0, -1, people - 1, NO_SUCH, NO_SUCH);
        }
        twosOfSpeakers();
    }

    /** TWO: "-1 (one twice)", too. */
    private static void twosOfSpeakers() {
        for (int people = 0; people <= 7; people++) {
            for (int a = -1; a <= 7; a++) {
                for (int b = -1; b <= 7; b++) {
                    if (a >= 0 && b >= 0 && a < people && b < people && a != b) {
                        taken("two", of(a, b), people);
                    } else {
                        refused("two", of(a, b), people, NO_SUCH);
                    }
                }
            }
        }
        for (int far : FAR) {
            refused("two", of(far, 0), 7, NO_SUCH);
            refused("two", of(0, far), 7, NO_SUCH);
        }
    }

    private static void balconies() {
        range("balcony", of(0, 0), 0, 0, 9);
        range("comes", of(0, 0), 1, 0, 9);
        range("builds", of(0, 0), 0, 0, 9);
        range("shuts", of(0), 0, 0, 9);
        range("goes", of(0, 0), 1, 0, 9);
        apart("rent", of(0, 0), 1, 0, 9);
    }

    private static void shelves() {
        range("quarter", of(0), 0, 0, 7);
        range("comes", of(0, 0), 0, 0, 7);
        range("law", of(0, 0), 0, 0, 7);
        range("whatIs", of(0, 0, 0), 0, 0, 7);
        range("forged", of(0), 0, 0, 7);
        range("judge", of(0), 0, 0, 7);
        range("keep", of(0, 0, 0, 0), 0, 0, 7);
        range("keep", of(0, 1, 0, 0), 0, 0, 7);
        range("row", of(0, 0, 1), 0, 0, 7);
        range("put", of(0, 0, 0), 0, 0, 7);
        range("copy", of(0, 0, 0, 0, 1), 0, 0, 7);
        range("copy", of(0, 0, 0, 0, 1), 2, 0, 7);
        range("cost", of(0), 0, 0, 7);
        range("toss", of(0), 0, 0, 7);
        range("element", 3, of(0, 0), 0, 0, 7, Oracle.ILLEGAL_ARGUMENT, Oracle.ILLEGAL_ARGUMENT);
    }

    private static void heightsMoodsQuotasDays() {
        range("builds", of(0, 0), 1, 0, 7);
        apart("thinks", of(0, 0), 1, -9, 9);
        range("quota", of(0), 0, 1, 99);
        range("days", of(0), 0, 1, 60);
    }

    /** "In mind, n DAYS on (0 .. 60)". */
    private static void daysInMind() {
        apart("moodThen", of(0, 0), 1, 0, 60);
        range("then", of(0, 0), 0, 0, 60);
        range("then", of(0, 1), 0, 0, 60);
        range("holds", of(0), 0, 0, 60);
        range("guest", of(0, 0, 0), 1, 0, 60);
        range("guest", of(0, 0, 1), 1, 0, 60);
        range("shutter", of(0), 0, 0, 60);
    }

    private static void partsAndOddsAndStreets() {
        apart("power", of(0, 0), 1, 0, 1);
        apart("rain", of(2, 0), 1, 0, 1);
        apart("mean", of(0), 0, 0, 1);
        apart("rain", of(0, 0), 0, 2, 20);
        apart("rain", of(0, 1), 0, 2, 20);
        range("streets", of(0, 1, 0), 0, 1, 20);
        range("streets", of(0, 1, 1), 0, 1, 20);
        // any seed is one
        for (int seed : FAR) {
            taken("streets", of(1, seed, 0), 3);
            taken("streets", of(20, seed, 1), 3);
        }
    }

    private static void whats() {
        range("speaker", of(0, 0), 1, 0, 6);
        range("balcony", of(0, 0), 1, 0, 2);
        range("carries", of(0), 0, 0, 3);
        range("then", of(0, 0), 1, 0, 1);
        range("groups", of(0), 0, 0, 2);
        range("win", of(0), 0, 0, 1);
        range("guest", of(0, 1, 0), 2, 0, 1);
        range("lines", of(0), 0, 0, 1);
        range("law", of(0, 0), 1, 0, 2);
        range("whatIs", of(0, 0, 0), 2, 0, 1);
        range("streets", of(1, 1, 0), 2, 0, 1);
        range("count", of(0), 0, 0, 6);
        // nobody there is no reason to take another number
        range("carries", 0, of(0), 0, 0, 3, NO_SUCH, NO_SUCH);
        range("groups", 0, of(0), 0, 0, 2, NO_SUCH, NO_SUCH);
        range("win", 0, of(0), 0, 0, 1, NO_SUCH, NO_SUCH);
        range("lines", 0, of(0), 0, 0, 1, NO_SUCH, NO_SUCH);
        range("mean", 0, of(0), 0, 0, 1, APART, APART);
        range("count", 0, of(0), 0, 0, 6, NO_SUCH, NO_SUCH);
    }

    private static void kindsFiguresRows() {
        range("keep", of(0, 0, 0, 0), 1, 0, 1);
        range("keep", of(0, 1, 0, 0), 2, 0, 7);
        range("keep", of(0, 1, 0, 0), 3, 0, 9);
        range("row", of(0, 0, 1), 1, 0, 2);
        // "-1 (n above 100); -14"
        range("row", 3, of(0, 0, 0), 2, 0, 100, -14, NO_SUCH);
        // "0 nothing (the others do not matter)"
        for (int far : FAR) {
            taken("keep", of(0, 0, far, 0), 3);
            taken("keep", of(0, 0, 0, far), 3);
        }
    }

    /** "-1 below 0, somebody who is not there": with n of them 0 .. 2 to the n, less 1. */
    private static void groups() {
        for (int people = 0; people <= 7; people++) {
            range("could", people, of(0), 0, 0, (1 << people) - 1, NO_SUCH, NO_SUCH);
        }
        // somebody who is not there beside those who are
        refused("could", of(1 << 7 | 1), 7, NO_SUCH);
        refused("could", of(1 << 30), 7, NO_SUCH);
        refused("could", of(1 << 3 | 7), 3, NO_SUCH);
    }

    /** Rows of 5 shorts: "-13 a place that isn't there". */
    private static void placesOfRows() {
        range("put", 3, of(0, 0, 1), 1, 0, 4, -13, -13);
        range("element", 3, of(0, 0), 1, 0, 4, Oracle.ILLEGAL_STATE, Oracle.ILLEGAL_STATE);
        range("copy", 3, of(0, 0, 1, 0, 1), 1, 0, 4, -13, -13);
        range("copy", 3, of(0, 0, 1, 0, 1), 3, 0, 4, -13, -13);
        range("copy", 3, of(0, 0, 1, 0, 0), 4, 0, 5, -13, -13);
        range("copy", 3, of(0, 2, 1, 0, 0), 4, 0, 3, -13, -13);
        range("copy", 3, of(0, 0, 1, 3, 0), 4, 0, 2, -13, -13);
        // any number may be put
        for (int far : FAR) {
            taken("put", of(0, 0, far), 3);
        }
    }
}
