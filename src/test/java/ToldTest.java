/** Promises 34 to 39: told heights and evenings, streets by seeds, the image, what is told. */
public final class ToldTest {
    private static final Due DUE = new Due();

    public static void main(String[] args) {
        promise34();
        promise35();
        promise36();
        promise37And38();
        promise39();
        DUE.end("ToldTest");
    }

    private static void promise34() {
        BalconiesParliament x = new BalconiesParliament();
        DUE.is("34: forged(8)", x.forged(8), -1);
        DUE.is("34: forged(-1)", x.forged(-1), -1);
        DUE.is("34: nothing", x.forged(0), -11);
        x.keep(0, 1, 0, 0);
        DUE.is("34: a kind", x.forged(0), -12);
        for (int sort = 0; sort < 3; sort++) {
            Due.tell(x, 0, sort);
            DUE.is("34: nothing is told", x.forged(0), -4);
            Due.tell(x, 0, sort, 0, 0, 1, 1, 2, 2, 3, 3, 4, 4);
            DUE.is("34: all of it is so", x.forged(0), -4);
            x.put(0, 9, 5);
            DUE.is("34: the last", x.forged(0), 9);
            x.put(0, 0, -128);
            DUE.is("34: nothing is skipped here", x.forged(0), 0);
            Due.tell(x, 0, sort, 0, 0, 1, 1, 2, 2, 3, 3, 4, 4, 0, 0);
            DUE.is("34: no such balcony", x.forged(0), 10);
        }
        x.builds(1, 7);
        DUE.is("34: built since", x.forged(0), 1);
    }

    private static void promise35() {
        // it carries from the third day on
        BalconiesParliament x = Due.street("q13;s008;s199;a02;f19;");
        DUE.is("35: judge(8)", x.judge(8), -1);
        DUE.is("35: judge(-1)", x.judge(-1), -1);
        DUE.is("35: nothing", x.judge(0), -11);
        x.keep(0, 1, 0, 0);
        DUE.is("35: a kind", x.judge(0), -12);
        int[] leasts = {-128, -32768, Integer.MIN_VALUE};
        for (int sort = 0; sort < 3; sort++) {
            Due.tell(x, 0, sort);
            DUE.is("35: nothing is told", x.judge(0), -4);
            Due.tell(x, 0, sort, 0, 0, 0, 1, 1);
            DUE.is("35: all of it is so", x.judge(0), -4);
            x.put(0, 4, 2);
            DUE.is("35: neither", x.judge(0), 4);
            x.put(0, 2, 1);
            DUE.is("35: not yet", x.judge(0), 2);
            x.put(0, 2, leasts[sort]);
            DUE.is("35: skipped", x.judge(0), 4);
            x.put(0, 0, 1);
            DUE.is("35: not now", x.judge(0), 0);
            x.put(0, 0, -127);
            DUE.is("35: not skipped", x.judge(0), 0);
        }
        int[] long100 = new int[100];
        java.util.Arrays.fill(long100, 3, 100, 1);
        Due.tell(x, 0, 0, long100);
        DUE.is("35: 99 days", x.judge(0), -4);
        x.put(0, 99, 0);
        DUE.is("35: the 99th", x.judge(0), 99);
        DUE.is("35: only in mind", x.count(1), 0);
    }

    /** A seed's draws, by the words of the document. */
    private static int[] draws(int seed, int... below) {
        int[] drawn = new int[below.length];
        long z = seed;
        for (int i = 0; i < below.length; i++) {
            z = (int) (z * 1103515245L + 12345L);
            drawn[i] = (int) ((z & 0x7fffffffL) / 65536 % below[i]);
        }
        return drawn;
    }

    private static void promise36() {
        // two widows, who keep their moods for all days: a balcony each, a mood each, twice
        String twoWidows = "q03;s100;s100;";
        int carried = 0;
        for (int seed = -40; seed < 40; seed++) {
            BalconiesParliament x = Due.street(twoWidows);
            int[] drawn = draws(seed * 1000003, 10, 19, 10, 19, 10, 19, 10, 19);
            int carries = 0;
            int weighs = 0;
            for (int street = 0; street < 2; street++) {
                int b0 = drawn[4 * street];
                int m0 = drawn[4 * street + 1] - 9;
                int b1 = drawn[4 * street + 2];
                int m1 = drawn[4 * street + 3] - 9;
                int weight = (m0 > 0 ? 2 * (b0 / 2) : 0) + (m1 > 0 ? 2 * (b1 / 2) : 0);
                weighs += weight;
                carries += m0 > 0 && m1 > 0 && b0 % 2 != b1 % 2 && weight >= 3 ? 1 : 0;
                if (street == 0) {
                    DUE.is("36: one carries", x.streets(1, seed * 1000003, 0), carries);
                    DUE.is("36: for", x.streets(1, seed * 1000003, 1), weighs);
                }
            }
            DUE.is("36: how many of 2", x.streets(2, seed * 1000003, 0), carries);
            DUE.is("36: for", x.streets(2, seed * 1000003, 1), weighs);
            DUE.is("36: only in mind", x.speaker(1, 2), 0);
            carried += carries;
        }
        DUE.so("36: some carry", carried > 5);
        promise36Days();
        BalconiesParliament x = Due.street(twoWidows);
        DUE.is("36: streets(0, 1, 0)", x.streets(0, 1, 0), -1);
        DUE.is("36: streets(21, 1, 0)", x.streets(21, 1, 0), -1);
        DUE.is("36: streets(1, 1, 2)", x.streets(1, 1, 2), -1);
        DUE.is("36: streets(1, 1, -1)", x.streets(1, 1, -1), -1);
        DUE.so("36: 20 streets", x.streets(20, Integer.MIN_VALUE, 0) >= 0);
        for (int b = 0; b < 10; b++) {
            x.shuts(b);
        }
        DUE.is("36: shutters stay", x.streets(20, 5, 1), 0);
    }

    /** All on one height, a lone tenant follows a widow across by 2 a day, on 5 days. */
    private static void promise36Days() {
        int moved = 0;
        for (int seed = 1; seed < 60; seed++) {
            BalconiesParliament x = level("s100;s300;q01;", 0);
            int[] drawn = draws(seed, 10, 19, 10, 19);
            int widow = drawn[1] - 9;
            int tenant = drawn[3] - 9;
            boolean across = drawn[0] % 2 != drawn[2] % 2;
            int most = Math.max(-10, Math.min(10, widow - tenant));
            int then = across ? tenant + most : tenant;
            moved += then > 0 != tenant > 0 ? 1 : 0;
            // at height 0 neither weighs anything
            DUE.is("36: weights of 0", x.streets(1, seed, 1), 0);
            x = level("s100;s300;q01;", 7);
            DUE.is("36: for behind 5 days", x.streets(1, seed, 1), (widow > 0 ? 14 : 0) + (then > 0 ? 7 : 0));
            DUE.is("36: carries", x.streets(1, seed, 0), across && widow > 0 && then > 0 ? 1 : 0);
        }
        DUE.so("36: some change sides", moved > 5);
        edgeOfDays(-5, 9, 0);
        edgeOfDays(-4, 9, 8);
        edgeOfDays(5, -9, 0);
        edgeOfDays(6, -9, 8);
    }

    private static BalconiesParliament level(String text, int height) {
        BalconiesParliament x = Due.street(text);
        for (int b = 0; b < 10; b++) {
            x.builds(b, height);
        }
        return x;
    }

    /** A speaker goes by 1 a day: what he weighs for it shows whether there were just 5 of them. */
    private static void edgeOfDays(int mood, int widow, int due) {
        for (int seed = 0; seed < 200000; seed++) {
            int[] drawn = draws(seed, 10, 19, 10, 19);
            if (drawn[1] - 9 == widow && drawn[3] - 9 == mood && drawn[0] % 2 != drawn[2] % 2) {
                BalconiesParliament x = level("s100;s000;", 7);
                int all = due + (widow > 0 ? 14 : 0);
                DUE.is("36: " + mood + " behind 5 days", x.streets(1, seed, 1), all);
                return;
            }
        }
        DUE.so("36: a seed for " + mood, false);
    }

    private static void promise37And38() {
        BalconiesParliament x = Due.street("s698;f05;b93;o4;q17;d07;");
        DUE.is("38: none", x.restore(), -3);
        DUE.is("37: day", x.image(), 7);
        DUE.is("37: nothing changes", x.count(0), 1);
        x.keep(0, 1, 3, 3);
        x.row(1, 2, 2);
        x.put(1, 1, 70000);
        Due.read(x, "s110;a11;f01;b00;b94;o4;o1;q50;d03;");
        x.goes(0, 1);
        DUE.is("38: day", x.restore(), 7);
        int[] counts = {1, 7, 17, 1, 1, 0, 16};
        for (int what = 0; what < 7; what++) {
            DUE.is("38: count(" + what + ")", x.count(what), counts[what]);
        }
        DUE.is("38: kind", x.speaker(0, 0), 6);
        DUE.is("38: figure", x.speaker(0, 1), 9);
        DUE.is("38: balcony", x.speaker(0, 2), 8);
        DUE.is("38: mood", x.speaker(0, 3), 14);
        DUE.is("38: height", x.balcony(9, 0), 3);
        DUE.is("38: shelves stay", x.cost(0), 1);
        DUE.is("38: shelves stay", Due.element(x, 1, 1), 70000);
        // the image is no part of what is restored, nor changed by what comes then
        x.thinks(0, -9);
        DUE.is("38: once more", x.restore(), 7);
        DUE.is("38: mood", x.speaker(0, 3), 14);
        x.days(1);
        DUE.is("37: a later one", x.image(), 8);
        x.days(1);
        DUE.is("38: the later one", x.restore(), 8);
    }

    private static void promise39() {
        BalconiesParliament x = Due.street("s008;s009;s000;s001;f05;a13;f21;a37;o0;o9;q42;");
        int[] counts = {4, 0, 42, 1 + 8, 1 + 4, 2 + 8, 1 + 512};
        for (int what = 0; what < 7; what++) {
            DUE.is("39: count(" + what + ")", x.count(what), counts[what]);
        }
        x.thinks(0, -1);
        DUE.is("39: number 0 against", x.count(5), 11);
        x.thinks(0, 0);
        DUE.is("39: neither for", x.count(4), 4);
        DUE.is("39: nor against", x.count(5), 10);
        x.days(13);
        DUE.is("39: day", x.count(1), 13);
        DUE.is("39: count(7)", x.count(7), -1);
        DUE.is("39: count(-1)", x.count(-1), -1);
        DUE.is("39: count(MAX)", x.count(Integer.MAX_VALUE), -1);
    }
}
