/** Promises 1 to 11: the quarter as told. */
public final class QuarterTest {
    private static final Due DUE = new Due();

    public static void main(String[] args) {
        promise1();
        promise2Statements();
        promise2Faults();
        promise2NothingComes();
        promise2Refusals();
        promise3();
        promise3Kinds();
        promise4();
        promise5();
        promise6();
        promise7();
        promise8();
        promise9();
        promise10();
        promise11();
        promise11Looks();
        DUE.end("QuarterTest");
    }

    private static void promise1() {
        BalconiesParliament x = new BalconiesParliament();
        int[] first = {0, 0, 10, 0, 0, 0, 0};
        for (int what = 0; what < 7; what++) {
            DUE.is("1: count(" + what + ")", x.count(what), first[what]);
        }
        for (int b = 0; b < 10; b++) {
            DUE.is("1: height of " + b, x.balcony(b, 0), b / 2);
            DUE.is("1: shut " + b, x.balcony(b, 1), 0);
            DUE.is("1: ones on " + b, x.balcony(b, 2), 0);
        }
        for (int d = 0; d < 8; d++) {
            DUE.is("1: shelf " + d, x.cost(d), -11);
        }
        DUE.is("1: no image", x.restore(), -3);
    }

    private static void promise2Statements() {
        BalconiesParliament x = new BalconiesParliament();
        DUE.is("2: one statement", Due.read(x, "b97;"), 1);
        DUE.is("2: b", x.balcony(9, 0), 7);
        DUE.is("2: s", Due.read(x, "s698;s000;"), 2);
        DUE.is("2: kind", x.speaker(0, 0), 6);
        DUE.is("2: figure", x.speaker(0, 1), 9);
        DUE.is("2: balcony", x.speaker(0, 2), 8);
        DUE.is("2: mood at first", x.speaker(0, 3), 9);
        DUE.is("2: the text adds", x.count(0), 2);
        DUE.is("2: f, a", Due.read(x, "f09;a17;"), 2);
        DUE.is("2: f", x.speaker(0, 3), 18);
        DUE.is("2: a", x.speaker(1, 3), 2);
        DUE.is("2: f and a of 0", Due.read(x, "f00;a10;"), 2);
        DUE.is("2: f 0", x.speaker(0, 3), 9);
        DUE.is("2: a 0", x.speaker(1, 3), 9);
        DUE.is("2: o", Due.read(x, "o9;o3;o9;"), 3);
        DUE.is("2: told again not", x.count(6), 8);
        DUE.is("2: o in a later text", Due.read(x, "o3;"), 1);
        DUE.is("2: not any more", x.count(6), 0);
        DUE.is("2: q", Due.read(x, "q99;q01;"), 2);
        DUE.is("2: quota", x.count(2), 1);
        DUE.is("2: d", Due.read(x, "d01;d60;"), 2);
        DUE.is("2: day", x.count(1), 61);
        DUE.is("2: the row stays", Due.element(x, 7, 0), 'd');
        // the tenant on 0 sees the speaker on 1, nobody sees more
        DUE.is("2: days go on what stands ahead", Due.read(x, "s001;f25;s300;d01;f09;"), 5);
        DUE.is("2: a tenant looks across", x.speaker(3, 3), 11);
        DUE.is("2: told behind the day", x.speaker(0, 3), 18);
    }

    private static void promise2Faults() {
        fault("", -1000);
        fault("x", -1000);
        fault(";", -1000);
        fault("0", -1000);
        fault("b", -1001);
        fault("b0", -1002);
        fault("b00", -1003);
        fault("b00;;", -1004);
        fault("b00;b", -1005);
        fault("b00 ;", -1003);
        fault("o00;", -1002);
        fault("q100;", -1003);
        fault("s00;", -1003);
        fault("b0/;", -1002);
        fault("b0:;", -1002);
        fault("B00;", -1000);
        fault(String.valueOf((char) 200), -1000);
        fault("b08;", -2000);
        fault("b00;b09;", -2004);
        fault("s800;", -2000);
        fault("s900;", -2000);
        fault("f01;", -2000);
        fault("s000;f11;", -2005);
        fault("a01;", -2000);
        fault("s000;s000;a21;", -2010);
        fault("q00;", -2000);
        fault("d00;", -2000);
        fault("d61;", -2000);
        fault("d99;", -2000);
        fault("s000;s000;s000;s000;s000;s000;s000;s000;", -2035);
        fault("f01;s000;", -2000);
        // a fault of kind 1 is told first, wherever it stands
        fault("b08;x", -1004);
        fault("q00;q0", -1006);
    }

    private static void fault(String text, int due) {
        DUE.is("2: \"" + text + "\"", Due.read(new BalconiesParliament(), text), due);
    }

    private static void promise2NothingComes() {
        String[] faults = {"x", "b08;", "f91;", "q00;", "d61;", "o"};
        for (String fault : faults) {
            BalconiesParliament x = new BalconiesParliament();
            DUE.so("2: " + fault, Due.read(x, "s111;f07;b03;o2;q33;d02;" + fault) < -1000);
            DUE.is("2: nobody came", x.count(0), 0);
            DUE.is("2: no day", x.count(1), 0);
            DUE.is("2: no quota", x.count(2), 10);
            DUE.is("2: no shutter", x.count(6), 0);
            DUE.is("2: no height", x.balcony(0, 0), 0);
        }
        BalconiesParliament x = new BalconiesParliament();
        for (int i = 0; i < 16; i++) {
            x.days(60);
        }
        DUE.is("2: day 960 and 40", Due.read(x, "d40;"), -2000);
        DUE.is("2: day 960, 39 and 1", Due.read(x, "o1;d39;d01;"), -2007);
        DUE.is("2: nothing went", x.count(1), 960);
        DUE.is("2: nothing shut", x.count(6), 0);
        DUE.is("2: day 960 and 39", Due.read(x, "d39;"), 1);
        DUE.is("2: day 999", x.count(1), 999);
    }

    private static void promise2Refusals() {
        BalconiesParliament x = new BalconiesParliament();
        DUE.is("2: quarter(-1)", x.quarter(-1), -1);
        DUE.is("2: quarter(8)", x.quarter(8), -1);
        DUE.is("2: nothing held", x.quarter(0), -11);
        x.keep(0, 1, 0, 0);
        DUE.is("2: a kind", x.quarter(0), -12);
        x.row(0, 1, 4);
        DUE.is("2: shorts", x.quarter(0), -12);
        x.row(0, 2, 4);
        DUE.is("2: ints", x.quarter(0), -12);
        x.row(0, 0, 4);
        DUE.is("2: bytes of 0", x.quarter(0), -1000);
    }

    private static void promise3() {
        BalconiesParliament x = Due.street("s475;a08;o5;s192;f15;");
        int[] lodger = {4, 7, 5, 1, 1, 0, 4};
        int[] widow = {1, 9, 2, 14, 2, 1, 0};
        for (int what = 0; what < 7; what++) {
            DUE.is("3: speaker(0, " + what + ")", x.speaker(0, what), lodger[what]);
            DUE.is("3: speaker(1, " + what + ")", x.speaker(1, what), widow[what]);
        }
        DUE.is("3: speaker(2, 0)", x.speaker(2, 0), -1);
        DUE.is("3: speaker(-1, 0)", x.speaker(-1, 0), -1);
        DUE.is("3: speaker(0, 7)", x.speaker(0, 7), -1);
        DUE.is("3: speaker(0, -1)", x.speaker(0, -1), -1);
    }

    /** Of each kind with figure 8: its weight at heights 0, 5 and 7, and its sway. */
    private static void promise3Kinds() {
        int[][] kinds = {
            {1, 6, 8, 1}, {0, 10, 14, 0}, {2, 2, 2, 1}, {0, 5, 7, 2},
            {0, 2, 3, 4}, {9, 9, 9, 3}, {8, 18, 22, 0}, {7, 7, 7, 1}
        };
        for (int k = 0; k < 8; k++) {
            BalconiesParliament x = Due.street("b35;b47;s" + k + "80;");
            int[] rails = {0, 3, 4};
            for (int i = 0; i < 3; i++) {
                x.goes(0, rails[i]);
                DUE.is("3: weight of kind " + k, x.speaker(0, 4), kinds[k][i]);
            }
            DUE.is("3: sway of kind " + k, x.speaker(0, 6), kinds[k][3]);
        }
        int[] lodgers = {2, 2, 2, 3, 3, 3, 4, 4, 4, 5};
        int[] priests = {3, 3, 4, 4, 5, 5, 6, 6, 7, 7};
        for (int figure = 0; figure < 10; figure++) {
            BalconiesParliament x = Due.street("s4" + figure + "0;s7" + figure + "0;s2" + figure + "0;");
            DUE.is("3: sway of a lodger " + figure, x.speaker(0, 6), lodgers[figure]);
            DUE.is("3: weight of a priest " + figure, x.speaker(1, 4), priests[figure]);
            DUE.is("3: weight of a mute " + figure, x.speaker(2, 4), figure / 3);
        }
    }

    private static void promise4() {
        BalconiesParliament x = Due.street("s003;s009;s003;o3;b36;");
        DUE.is("4: height", x.balcony(3, 0), 6);
        DUE.is("4: shut", x.balcony(3, 1), 1);
        DUE.is("4: ones", x.balcony(3, 2), 5);
        DUE.is("4: ones", x.balcony(9, 2), 2);
        DUE.is("4: not shut", x.balcony(9, 1), 0);
        DUE.is("4: balcony(10, 0)", x.balcony(10, 0), -1);
        DUE.is("4: balcony(-1, 0)", x.balcony(-1, 0), -1);
        DUE.is("4: balcony(0, 3)", x.balcony(0, 3), -1);
        DUE.is("4: balcony(0, -1)", x.balcony(0, -1), -1);
    }

    private static void promise5() {
        BalconiesParliament x = new BalconiesParliament();
        DUE.is("5: comes(0, 0) of nothing", x.comes(0, 0), -11);
        DUE.is("5: comes(0, 10) of nothing", x.comes(0, 10), -1);
        DUE.is("5: comes(8, 0)", x.comes(8, 0), -1);
        DUE.is("5: comes(-1, 0)", x.comes(-1, 0), -1);
        x.row(1, 0, 3);
        DUE.is("5: a row", x.comes(1, 0), -12);
        DUE.is("5: a row, no such balcony", x.comes(1, -1), -1);
        x.keep(0, 1, 7, 5);
        for (int s = 0; s < 7; s++) {
            DUE.is("5: number " + s, x.comes(0, 9 - s), s);
            DUE.is("5: kind", x.speaker(s, 0), 7);
            DUE.is("5: figure", x.speaker(s, 1), 5);
            DUE.is("5: balcony", x.speaker(s, 2), 9 - s);
            DUE.is("5: mood", x.speaker(s, 3), 9);
        }
        DUE.is("5: no room", x.comes(0, 0), -2);
        DUE.is("5: a row ahead of no room", x.comes(1, 0), -12);
        DUE.is("5: still 7", x.count(0), 7);
        DUE.is("5: the shelf keeps him", x.cost(0), 9);
    }

    private static void promise6() {
        BalconiesParliament x = new BalconiesParliament();
        DUE.is("6: builds(9, 7)", x.builds(9, 7), 4);
        DUE.is("6: builds(9, 0)", x.builds(9, 0), 7);
        DUE.is("6: height", x.balcony(9, 0), 0);
        DUE.is("6: builds(9, 8)", x.builds(9, 8), -1);
        DUE.is("6: builds(9, -1)", x.builds(9, -1), -1);
        DUE.is("6: builds(10, 1)", x.builds(10, 1), -1);
        DUE.is("6: builds(-1, 1)", x.builds(-1, 1), -1);
        DUE.is("6: unchanged", x.balcony(9, 0), 0);
    }

    private static void promise7() {
        BalconiesParliament x = new BalconiesParliament();
        DUE.is("7: shuts(9)", x.shuts(9), 1);
        DUE.is("7: shuts(0)", x.shuts(0), 1);
        DUE.is("7: bits", x.count(6), 513);
        DUE.is("7: shuts(9) again", x.shuts(9), 0);
        DUE.is("7: bits", x.count(6), 1);
        DUE.is("7: shuts(10)", x.shuts(10), -1);
        DUE.is("7: shuts(-1)", x.shuts(-1), -1);
        DUE.is("7: bits", x.count(6), 1);
    }

    private static void promise8() {
        BalconiesParliament x = Due.street("s000;");
        DUE.is("8: thinks(0, -9)", x.thinks(0, -9), 0);
        DUE.is("8: thinks(0, 9)", x.thinks(0, 9), -9);
        DUE.is("8: thinks(0, 10)", x.thinks(0, 10), 1000000001);
        DUE.is("8: thinks(0, -10)", x.thinks(0, -10), 1000000001);
        DUE.is("8: thinks(1, 0)", x.thinks(1, 0), 1000000001);
        DUE.is("8: thinks(-1, 0)", x.thinks(-1, 0), 1000000001);
        DUE.is("8: mood", x.speaker(0, 3), 18);
    }

    private static void promise9() {
        BalconiesParliament x = Due.street("s004;");
        DUE.is("9: goes(0, 9)", x.goes(0, 9), 4);
        DUE.is("9: goes(0, 9) again", x.goes(0, 9), 9);
        DUE.is("9: goes(0, 10)", x.goes(0, 10), -1);
        DUE.is("9: goes(0, -1)", x.goes(0, -1), -1);
        DUE.is("9: goes(1, 0)", x.goes(1, 0), -1);
        DUE.is("9: goes(-1, 0)", x.goes(-1, 0), -1);
        DUE.is("9: where he is", x.speaker(0, 2), 9);
    }

    private static void promise10() {
        BalconiesParliament x = new BalconiesParliament();
        DUE.is("10: quota(1)", x.quota(1), 10);
        DUE.is("10: quota(99)", x.quota(99), 1);
        DUE.is("10: quota(100)", x.quota(100), -1);
        DUE.is("10: quota(0)", x.quota(0), -1);
        DUE.is("10: as it was", x.count(2), 99);
    }

    private static void promise11() {
        BalconiesParliament x = Due.street("q02;s000;s001;f09;");
        DUE.is("11: days(0)", x.days(0), -1);
        DUE.is("11: days(61)", x.days(61), -1);
        DUE.is("11: days(-1)", x.days(-1), -1);
        DUE.is("11: it carries then", x.days(1), 1);
        DUE.is("11: nobody across", x.goes(1, 9), 1);
        x.thinks(1, 0);
        DUE.is("11: it does not", x.days(60), 0);
        DUE.is("11: day", x.count(1), 61);
        for (int i = 0; i < 15; i++) {
            x.days(60);
        }
        DUE.is("11: day", x.count(1), 961);
        DUE.is("11: above 999", x.days(39), -3);
        DUE.is("11: out of range first", x.days(61), -1);
        DUE.is("11: none went", x.count(1), 961);
        DUE.is("11: up to 999", x.days(38), 0);
        DUE.is("11: not one more", x.days(1), -3);
        DUE.is("11: day", x.count(1), 999);
    }

    private static void promise11Looks() {
        // by numbers, each on the moods as they are then: 0 goes to 8, then 1 sees 8 and goes to 4
        BalconiesParliament x = Due.street("s000;f09;s301;f12;d01;");
        DUE.is("11: a speaker goes by 1", x.speaker(0, 3), 17);
        DUE.is("11: a tenant goes by 2", x.speaker(1, 3), 13);
        // no farther than the mean: -7 by 2 is -3, cut towards 0
        x = Due.street("s591;s000;s000;a13;a24;d01;");
        DUE.is("11: a mean below 0 is cut towards 0", x.speaker(0, 3), 6);
        x = Due.street("s591;s000;s000;f11;f22;d01;");
        DUE.is("11: no farther", x.speaker(0, 3), 10);
        // who is shut looks, but isn't looked at
        x = Due.street("s000;s001;f19;o0;d01;");
        DUE.is("11: not heard, he looks", x.speaker(0, 3), 10);
        DUE.is("11: he isn't looked at", x.speaker(1, 3), 18);
        // heights 0 and 1 see each other, 0 and 2 don't; nobody sees his own side
        x = Due.street("s000;s003;f19;d01;");
        DUE.is("11: 1 apart", x.speaker(0, 3), 10);
        x = Due.street("s000;s005;f19;d01;");
        DUE.is("11: 2 apart", x.speaker(0, 3), 9);
        x = Due.street("s000;s002;f19;d01;");
        DUE.is("11: one side", x.speaker(0, 3), 9);
        x = Due.street("s190;s001;f19;d09;");
        DUE.is("11: a widow doesn't follow", x.speaker(0, 3), 9);
        // an owner, who doesn't follow either, draws the others to 0
        x = Due.street("s690;s001;f19;d08;");
        DUE.is("11: 8 days towards 0", x.speaker(1, 3), 10);
        x.days(2);
        DUE.is("11: there he stays", x.speaker(1, 3), 9);
    }
}
