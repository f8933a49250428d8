/** Promises 12 to 16: what carries, now and in mind. */
public final class CarriesTest {
    private static final Due DUE = new Due();

    public static void main(String[] args) {
        promise12();
        promise12Vetoes();
        promise13();
        promise14();
        promise15();
        promise16();
        DUE.end("CarriesTest");
    }

    private static void promise12() {
        BalconiesParliament x = new BalconiesParliament();
        told(x, 0, 0, 10, 1);
        // a speaker of 5 on side 0, one of 5 on side 1
        x = Due.street("s008;s009;");
        told(x, 0, 0, 10, 1);
        x.thinks(1, 1);
        told(x, 0, 5, 5, 1);
        x.thinks(0, 1);
        told(x, 1, 10, 0, 0);
        x.quota(11);
        told(x, 0, 10, 1, 3);
        x.quota(9);
        told(x, 1, 10, 0, 0);
        x.thinks(1, -9);
        told(x, 0, 5, 4, 2);
        x.thinks(1, 1);
        x.shuts(9);
        told(x, 0, 5, 4, 2);
        x.shuts(8);
        told(x, 0, 0, 9, 1);
        DUE.is("12: carries(4)", x.carries(4), -1);
        DUE.is("12: carries(-1)", x.carries(-1), -1);
    }

    private static void told(BalconiesParliament x, int carries, int weighs, int lacks, int why) {
        DUE.is("12: carries", x.carries(0), carries);
        DUE.is("12: for", x.carries(1), weighs);
        DUE.is("12: lacks", x.carries(2), lacks);
        DUE.is("12: why", x.carries(3), why);
    }

    private static void promise12Vetoes() {
        String carried = "s008;s009;f01;f11;";
        BalconiesParliament x = Due.street(carried + "s600;a21;");
        told(x, 0, 10, 0, 4);
        x.quota(11);
        told(x, 0, 10, 1, 3);
        x.quota(10);
        x.thinks(2, 0);
        told(x, 1, 10, 0, 0);
        x.thinks(2, -1);
        x.shuts(0);
        told(x, 1, 10, 0, 0);
        x = Due.street("s600;s008;s009;f11;f21;a01;");
        told(x, 0, 10, 0, 4);
        x = Due.street(carried + "s700;a25;");
        told(x, 0, 10, 0, 4);
        x.thinks(2, -4);
        told(x, 1, 10, 0, 0);
        for (int kind = 0; kind < 6; kind++) {
            x = Due.street(carried + "s" + kind + "90;a29;");
            told(x, 1, 10, 0, 0);
        }
    }

    private static void promise13() {
        BalconiesParliament x = Due.street("s000;s191;f19;");
        for (int n = 0; n <= 9; n++) {
            DUE.is("13: moodThen(0, " + n + ")", x.moodThen(0, n), n);
        }
        DUE.is("13: moodThen(0, 60)", x.moodThen(0, 60), 9);
        DUE.is("13: moodThen(0, 61)", x.moodThen(0, 61), 1000000001);
        DUE.is("13: moodThen(0, -1)", x.moodThen(0, -1), 1000000001);
        DUE.is("13: moodThen(2, 0)", x.moodThen(2, 0), 1000000001);
        DUE.is("13: moodThen(-1, 0)", x.moodThen(-1, 0), 1000000001);
        DUE.is("13: only in mind", x.speaker(0, 3), 9);
        x.thinks(1, -3);
        DUE.is("13: below 0", x.moodThen(0, 2), -2);
        DUE.is("13: no day went", x.count(1), 0);
        for (int i = 0; i < 16; i++) {
            x.days(60);
        }
        x.thinks(0, 0);
        DUE.is("13: in mind past day 999", x.moodThen(0, 60), -3);
    }

    private static void promise14() {
        // the speaker on 8 of mood -2 is drawn up by the widow on 9, one a day
        BalconiesParliament x = Due.street("q13;s008;s199;a02;f19;");
        int[] carries = {0, 0, 0, 1, 1};
        int[] weighs = {8, 8, 8, 13, 13};
        for (int n = 0; n < 5; n++) {
            DUE.is("14: then(" + n + ", 0)", x.then(n, 0), carries[n]);
            DUE.is("14: then(" + n + ", 1)", x.then(n, 1), weighs[n]);
        }
        DUE.is("14: then(60, 0)", x.then(60, 0), 1);
        DUE.is("14: then(61, 0)", x.then(61, 0), -1);
        DUE.is("14: then(-1, 0)", x.then(-1, 0), -1);
        DUE.is("14: then(0, 2)", x.then(0, 2), -1);
        DUE.is("14: then(0, -1)", x.then(0, -1), -1);
        DUE.is("14: only in mind", x.speaker(0, 3), 7);
        DUE.is("14: no day went", x.count(1), 0);
    }

    private static void promise15() {
        BalconiesParliament x = Due.street("q13;s008;s199;a09;f19;");
        DUE.is("15: behind 10 days", x.when(), 10);
        x.days(9);
        DUE.is("15: behind 1 more", x.when(), 1);
        x.days(1);
        DUE.is("15: now", x.when(), 0);
        x.quota(14);
        DUE.is("15: never", x.when(), -4);
        // all quiet now, and it doesn't carry
        DUE.is("15: nobody", new BalconiesParliament().when(), -4);
    }

    private static void promise16() {
        BalconiesParliament x = Due.street("q13;s008;s199;a02;f19;");
        int[] held = {0, 0, 0, 1, 2, 3};
        for (int n = 0; n < held.length; n++) {
            DUE.is("16: holds(" + n + ")", x.holds(n), held[n]);
        }
        DUE.is("16: holds(60)", x.holds(60), 58);
        DUE.is("16: holds(61)", x.holds(61), -1);
        DUE.is("16: holds(-1)", x.holds(-1), -1);
        // it carries now, but at no day's end: the widow draws him down
        x = Due.street("q01;s008;s199;s009;f01;a19;f21;");
        DUE.is("16: now", x.carries(0), 1);
        DUE.is("16: no more", x.holds(5), 0);
    }
}
