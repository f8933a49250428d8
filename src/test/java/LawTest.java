/** Promises 29 to 33: the law, what he is, two who lean out or not, rain, the mean. */
public final class LawTest {
    private static final Due DUE = new Due();
    private static final int LEAST_BYTE = -128;

    public static void main(String[] args) {
        promise29();
        promise29Refusals();
        promise30();
        promise30Refusals();
        promise31();
        promise32();
        promise33();
        DUE.end("LawTest");
    }

    private static void law(BalconiesParliament x, int many, int least, int greatest, int... row) {
        for (int sort = 0; sort < 3; sort++) {
            Due.tell(x, 0, sort, row);
            DUE.is("29: how many", x.law(0, 0), many);
            DUE.is("29: the least", x.law(0, 1), least);
            DUE.is("29: the greatest", x.law(0, 2), greatest);
        }
    }

    private static void promise29() {
        // weights 5 (side 0), 5 (side 1), 3 (side 0)
        BalconiesParliament x = Due.street("s008;s009;s004;");
        law(x, 99, 1, 99);
        law(x, 10, 1, 10, 3, 1);
        law(x, 89, 11, 99, 3, 0);
        law(x, 2, 9, 10, 3, 1, 6, 0);
        law(x, 3, 11, 13, 3, 0, 7, 1);
        law(x, 0, -4, -4, 3, 0, 6, 1);
        law(x, 0, -4, -4, 3, 0, 3, 1);
        law(x, 0, -4, -4, 5, 1);
        law(x, 99, 1, 99, 5, 0);
        law(x, 99, 1, 99, 0, 0);
        law(x, 0, -4, -4, 0, 1);
        DUE.is("29: the quota stays", x.count(2), 10);
        x.thinks(0, -9);
        law(x, 10, 1, 10, 3, 1);
        // of a group those who are heard
        x.shuts(8);
        law(x, 8, 1, 8, 7, 1);
        law(x, 0, -4, -4, 3, 1);
        law(x, 99, 1, 99, 3, 0);
        // weights 5 and 5, 4 beside them: one quota alone
        x = Due.street("s008;s009;s006;");
        law(x, 1, 10, 10, 3, 1, 6, 0);
        // weights 0 on both sides: no quota is so low
        x = Due.street("s100;s101;");
        law(x, 0, -4, -4, 3, 1);
        law(x, 99, 1, 99, 3, 0);
        // 100 and more: no quota is so high
        x = Due.street("b07;b17;s690;s690;s690;s691;s691;");
        law(x, 99, 1, 99, 31, 1);
        law(x, 0, -4, -4, 31, 0);
    }

    private static void promise29Refusals() {
        BalconiesParliament x = Due.street("s008;s009;s004;");
        DUE.is("29: law(0, 0)", x.law(0, 0), -11);
        DUE.is("29: law(0, 3)", x.law(0, 3), -1);
        DUE.is("29: law(0, -1)", x.law(0, -1), -1);
        DUE.is("29: law(8, 0)", x.law(8, 0), -1);
        DUE.is("29: law(-1, 0)", x.law(-1, 0), -1);
        x.keep(0, 1, 0, 0);
        DUE.is("29: a kind", x.law(0, 0), -12);
        int[][] rows = {{1}, {3, 1, 3}, {8, 1}, {-1, 0}, {3, 2}, {3, -1}, {3, 1, 9, 0}, {0, 1, 1, 3}};
        for (int[] row : rows) {
            Due.tell(x, 0, 0, row);
            for (int what = 0; what < 3; what++) {
                DUE.is("29: not as told", x.law(0, what), -13);
            }
        }
    }

    private static void promise30() {
        // a tenant of 0 across from a widow of 9
        BalconiesParliament x = Due.street("s300;s101;f19;");
        whatHeIs(x, 0, 255, 1023);
        whatHeIs(x, 0, 255, 1023, 0);
        whatHeIs(x, 0, 0, 0, 1);
        // speakers, mutes and priests go by 1, tenants and lodgers of 0 by 2, children by 3
        whatHeIs(x, 0, 1 + 4 + 128, 0, 0, 1);
        whatHeIs(x, 0, 8 + 16, 1023, 0, 2);
        whatHeIs(x, 0, 32, 0, 0, 3);
        whatHeIs(x, 0, 2 + 64, 0, 0, 0);
        whatHeIs(x, 0, 0, 0, 0, 4);
        whatHeIs(x, 0, 8 + 16, 1023, LEAST_BYTE, LEAST_BYTE, 4);
        whatHeIs(x, 0, 8 + 16, 1023, 0, LEAST_BYTE, 4, LEAST_BYTE, 8, 9, 9);
        whatHeIs(x, 0, 255, 1023, LEAST_BYTE, LEAST_BYTE);
        // of a lodger each figure tells
        x = Due.street("s490;s101;f19;");
        whatHeIs(x, 0, 16, 512, 0, 5);
        whatHeIs(x, 0, 0, 64 + 128 + 256, 0, 4);
        whatHeIs(x, 0, 32, 8 + 16 + 32, 0, 3);
        whatHeIs(x, 0, 8, 1 + 2 + 4, 0, 2);
        DUE.is("30: only in mind", x.speaker(0, 0), 4);
        DUE.is("30: only in mind", x.speaker(0, 1), 9);
        // rows may tell more days than are lived in one call
        int[] long100 = new int[100];
        for (int i = 0; i < 100; i++) {
            long100[i] = Math.min(9, 5 * i);
        }
        whatHeIs(x, 0, 16, 512, long100);
        long100[99] = 8;
        whatHeIs(x, 0, 0, 0, long100);
        promise30Skips(x);
    }

    /** Each sort skips its own least number; what it can't hold keeps its lowest bits, here 0. */
    private static void promise30Skips(BalconiesParliament x) {
        int[] leasts = {-128, -32768, Integer.MIN_VALUE};
        int[][] due = {{255, 255, 255}, {0, 255, 255}, {0, 0, 255}};
        for (int sort = 0; sort < 3; sort++) {
            for (int i = 0; i < 3; i++) {
                Due.tell(x, 0, sort, leasts[i]);
                DUE.is("30: sort " + sort + ", " + leasts[i], x.whatIs(0, 0, 0), due[sort][i]);
            }
        }
    }

    private static void whatHeIs(BalconiesParliament x, int s, int kinds, int figures, int... row) {
        Due.tell(x, 0, 0, row);
        DUE.is("30: kinds", x.whatIs(0, s, 0), kinds);
        DUE.is("30: figures", x.whatIs(0, s, 1), figures);
    }

    private static void promise30Refusals() {
        BalconiesParliament x = Due.street("s300;");
        DUE.is("30: nothing", x.whatIs(0, 0, 0), -11);
        DUE.is("30: whatIs(0, 1, 0)", x.whatIs(0, 1, 0), -1);
        DUE.is("30: whatIs(0, -1, 0)", x.whatIs(0, -1, 0), -1);
        DUE.is("30: whatIs(0, 0, 2)", x.whatIs(0, 0, 2), -1);
        DUE.is("30: whatIs(0, 0, -1)", x.whatIs(0, 0, -1), -1);
        DUE.is("30: whatIs(8, 0, 0)", x.whatIs(8, 0, 0), -1);
        DUE.is("30: whatIs(-1, 0, 0)", x.whatIs(-1, 0, 0), -1);
        x.keep(0, 1, 0, 0);
        DUE.is("30: a kind", x.whatIs(0, 0, 0), -12);
    }

    private static void promise31() {
        // both would have it and each is needed: neither leans out alone
        BalconiesParliament x = Due.street("s008;s009;f01;f11;");
        DUE.is("31: both in", x.two(0, 1), 0);
        // 0 alone turns it, with 2 across
        x = Due.street("q06;s008;s001;s001;f05;f25;");
        DUE.is("31: one out", x.two(0, 1), 10);
        DUE.is("31: the other out", x.two(1, 0), 1);
        // an owner leaning out votes for it, so that he never does
        x = Due.street("q06;s008;s600;s001;f05;a19;f25;");
        DUE.is("31: an owner in", x.two(0, 1), 10);
        // of mood 0 he wouldn't have it
        x = Due.street("q06;s008;s001;s001;f25;");
        DUE.is("31: of mood 0", x.two(0, 1), 0);
        // each may turn it for both: the first such pair
        x = Due.street("q06;s008;s008;s001;f01;f11;f21;");
        DUE.is("31: the second leans out", x.two(0, 1), 1);
        // 0 would have it, 1 not; by leaning out 1 would help it
        x = Due.street("q01;s008;s009;s009;f01;a11;f21;");
        DUE.is("31: one against", x.two(1, 0), 1);
        // leaning out is worth it only together, and the first pair is that of none
        x = Due.street("s008;s009;f01;f11;q09;");
        DUE.is("31: none", x.two(1, 0), 0);
        // it carries anyway
        x = Due.street("q01;s008;s009;s008;s009;f01;f11;f21;f31;");
        DUE.is("31: it carries anyway", x.two(0, 1), 0);
        DUE.is("31: one twice", x.two(1, 1), -1);
        DUE.is("31: two(0, 4)", x.two(0, 4), -1);
        DUE.is("31: two(-1, 0)", x.two(-1, 0), -1);
        DUE.is("31: only in mind", x.speaker(0, 3), 10);
    }

    private static void promise32() {
        BalconiesParliament x = Due.street("s008;s009;f01;f11;");
        fraction(x, 2, 1, 4);
        fraction(x, 3, 4, 9);
        fraction(x, 20, 361, 400);
        // an owner against it who may be in
        Due.read(x, "s600;a21;");
        fraction(x, 2, 1, 8);
        fraction(x, 3, 4, 27);
        fraction(x, 20, 361, 8000);
        // one who is shut counts nothing, whether it rains or not
        x = Due.street("s008;s009;f01;f11;s600;a21;o0;");
        fraction(x, 2, 1, 4);
        x.shuts(8);
        fraction(x, 2, 0, 1);
        DUE.is("32: rain(1, 0)", x.rain(1, 0), 1000000001);
        DUE.is("32: rain(21, 0)", x.rain(21, 0), 1000000001);
        DUE.is("32: rain(-2, 0)", x.rain(-2, 0), 1000000001);
        DUE.is("32: rain(2, 2)", x.rain(2, 2), 1000000001);
        DUE.is("32: rain(2, -1)", x.rain(2, -1), 1000000001);
        // all seven are needed
        x = Due.street("q07;s000;s000;s000;s001;s001;s001;s001;f01;f11;f21;f31;f41;f51;f61;");
        fraction(x, 20, 893871739L, 1280000000L);
        fraction(x, 19, 612220032L, 893871739L);
        fraction(new BalconiesParliament(), 2, 0, 1);
    }

    private static void fraction(BalconiesParliament x, int t, long above, long below) {
        DUE.is("32: above, 1 in " + t, x.rain(t, 0), above);
        DUE.is("32: below, 1 in " + t, x.rain(t, 1), below);
    }

    private static void promise33() {
        BalconiesParliament x = new BalconiesParliament();
        DUE.is("33: of none", x.mean(0), 0);
        DUE.is("33: of none", x.mean(1), 1);
        x = Due.street("s000;s000;s000;s000;f01;f15;o0;");
        DUE.is("33: 6 by 4", x.mean(0), 3);
        DUE.is("33: 6 by 4", x.mean(1), 2);
        x.thinks(1, -7);
        DUE.is("33: -6 by 4", x.mean(0), -3);
        DUE.is("33: -6 by 4", x.mean(1), 2);
        x.thinks(1, -1);
        DUE.is("33: 0 by 4", x.mean(0), 0);
        DUE.is("33: 0 by 4", x.mean(1), 1);
        x.thinks(1, -9);
        DUE.is("33: -8 by 4", x.mean(0), -2);
        DUE.is("33: -8 by 4", x.mean(1), 1);
        DUE.is("33: mean(2)", x.mean(2), 1000000001);
        DUE.is("33: mean(-1)", x.mean(-1), 1000000001);
    }
}
