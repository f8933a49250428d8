/** "Terms", I., without the text: each sentence that names a number, at the number and beside it. */
public final class StreetEdgesTest {
    private static final Due DUE = new Due();
    private static final int SPEAKER = 0;
    private static final int WIDOW = 1;
    private static final int LODGER = 4;
    private static final int CHILD = 5;
    private static final int OWNER = 6;
    private static final int PRIEST = 7;

    public static void main(String[] args) {
        evenAndOddSides();
        heights();
        atFirst();
        sevenAtMost();
        forAndAgainst();
        onesOnABalcony();
        weights();
        vetoes();
        vetoesOfThoseHeard();
        sways();
        weighQuotaOrMore();
        theGreatestQuota();
        oneHeightHigherOrLower();
        onTheOtherSide();
        heardOrNot();
        cutTowards0();
        asTheyAreThen();
        noFarther();
        dayAbove999();
        DUE.end("StreetEdgesTest");
    }

    private static int comes(BalconiesParliament x, int kind, int figure, int b, int mood) {
        x.keep(7, 1, kind, figure);
        int s = x.comes(7, b);
        x.thinks(s, mood);
        return s;
    }

    private static int moodOf(BalconiesParliament x, int s) {
        return x.speaker(s, 3) - 9;
    }

    /** "even ones 0, odd ones 1": two who are for it carry it, if one of them is even, one odd. */
    private static void evenAndOddSides() {
        BalconiesParliament x = new BalconiesParliament();
        x.quota(1);
        comes(x, SPEAKER, 0, 0, 1);
        comes(x, SPEAKER, 0, 0, 1);
        for (int a = 0; a <= 9; a++) {
            for (int b = 0; b <= 9; b++) {
                x.goes(0, a);
                x.goes(1, b);
                boolean even = a % 2 == 0 || b % 2 == 0;
                boolean odd = a % 2 == 1 || b % 2 == 1;
                DUE.is("carries from " + a + " and " + b, x.carries(0), even && odd ? 1 : 0);
                DUE.is("why not from " + a + " and " + b, x.carries(3), !even ? 1 : !odd ? 2 : 0);
            }
        }
    }

    /** "a HEIGHT (0 .. 7; at first the number by 2, cut)". */
    private static void heights() {
        BalconiesParliament x = new BalconiesParliament();
        int[] first = {0, 0, 1, 1, 2, 2, 3, 3, 4, 4};
        for (int b = 0; b <= 9; b++) {
            DUE.is("first height of " + b, x.balcony(b, 0), first[b]);
            for (int h = 0; h <= 7; h++) {
                x.builds(b, h);
                DUE.is("height " + h + " of " + b, x.balcony(b, 0), h);
            }
            DUE.is("8 of " + b, x.builds(b, 8), -1);
            DUE.is("-1 of " + b, x.builds(b, -1), -1);
            DUE.is("it stays 7", x.builds(b, 0), 7);
            for (int other = b + 1; other <= 9; other++) {
                DUE.is("others stay", x.balcony(other, 0), first[other]);
            }
        }
    }

    /** "SHUT or not (not at first)", "MOOD 0 at first", "10 at first", "0 at first". */
    private static void atFirst() {
        BalconiesParliament x = new BalconiesParliament();
        DUE.is("quota at first", x.quota(1), 10);
        DUE.is("day at first", x.image(), 0);
        for (int b = 0; b <= 9; b++) {
            DUE.is("shut at first: " + b, x.balcony(b, 1), 0);
            DUE.is("SHUT", x.shuts(b), 1);
            DUE.is("shut", x.balcony(b, 1), 1);
            DUE.is("bits", x.count(6), 1 << b);
            DUE.is("not any more", x.shuts(b), 0);
        }
        for (int kind = 0; kind <= 7; kind++) {
            BalconiesParliament y = new BalconiesParliament();
            y.keep(0, 1, kind, 9);
            y.comes(0, 0);
            DUE.is("mood at first", y.thinks(0, 5), 0);
        }
    }

    /** "SPEAKERS 0 .. 6 as they come (7 at most)". */
    private static void sevenAtMost() {
        BalconiesParliament x = new BalconiesParliament();
        x.keep(0, 1, SPEAKER, 0);
        for (int s = 0; s < 7; s++) {
            DUE.is("there are", x.count(0), s);
            DUE.is("not there yet", x.speaker(s, 0), -1);
            DUE.is("he comes", x.comes(0, s), s);
            DUE.is("there", x.speaker(s, 2), s);
        }
        for (int b = 0; b <= 9; b++) {
            DUE.is("one more", x.comes(0, b), -2);
        }
        DUE.is("one more by a text", Due.read(x, "s000;"), -2000);
        DUE.is("seven", x.count(0), 7);
        DUE.is("number 7", x.speaker(7, 0), -1);
        DUE.is("all are heard", x.count(3), 127);
        // with an image of fewer there is room once more
        BalconiesParliament y = Due.street("s000;s000;s000;s000;s000;s000;");
        y.image();
        Due.read(y, "s000;");
        DUE.is("full", y.comes(0, 0), -11);
        y.keep(0, 1, SPEAKER, 0);
        DUE.is("full", y.comes(0, 0), -2);
        y.restore();
        DUE.is("room", y.comes(0, 0), 6);
        DUE.is("full", y.comes(0, 0), -2);
    }

    /** "FOR, if it is above 0; AGAINST, if below". */
    private static void forAndAgainst() {
        BalconiesParliament x = new BalconiesParliament();
        comes(x, SPEAKER, 0, 8, 0);
        for (int mood = -9; mood <= 9; mood++) {
            x.thinks(0, mood);
            DUE.is("for: " + mood, x.count(4), mood > 0 ? 1 : 0);
            DUE.is("against: " + mood, x.count(5), mood < 0 ? 1 : 0);
            DUE.is("weighs for it: " + mood, x.carries(1), mood > 0 ? 5 : 0);
            DUE.is("mood and 9", x.speaker(0, 3), mood + 9);
        }
        // all bits of seven
        BalconiesParliament y = Due.street("s000;s001;s002;s003;s004;s005;s006;");
        for (int s = 0; s < 7; s++) {
            y.thinks(s, 1);
            DUE.is("for up to " + s, y.count(4), (2 << s) - 1);
        }
        for (int s = 0; s < 7; s++) {
            y.thinks(s, -1);
            DUE.is("for from behind " + s, y.count(4), 127 - ((2 << s) - 1));
            DUE.is("against up to " + s, y.count(5), (2 << s) - 1);
            y.shuts(s);
            DUE.is("heard from behind " + s, y.count(3), 127 - ((2 << s) - 1));
            DUE.is("against, heard or not", y.count(5), (2 << s) - 1);
        }
    }

    /** balcony: "SPEAKERS (2, bits)": nobody, one, all seven on each. */
    private static void onesOnABalcony() {
        BalconiesParliament x = new BalconiesParliament();
        for (int b = 0; b <= 9; b++) {
            DUE.is("nobody on " + b, x.balcony(b, 2), 0);
        }
        Due.read(x, "s009;s009;s009;s009;s009;s009;s009;");
        for (int b = 0; b <= 9; b++) {
            for (int s = 0; s < 7; s++) {
                x.goes(s, b);
                DUE.is("up to " + s + " on " + b, x.balcony(b, 2), (2 << s) - 1);
            }
            DUE.is("nobody on the next", x.balcony((b + 1) % 10, 2), 0);
        }
        x.shuts(9);
        DUE.is("shut or not", x.balcony(9, 2), 127);
        x.goes(3, 0);
        DUE.is("without one", x.balcony(9, 2), 127 - 8);
        DUE.is("he alone", x.balcony(0, 2), 8);
    }

    private static void weigh(int kind, int figure, int at0, int at1, int at7) {
        BalconiesParliament x = new BalconiesParliament();
        comes(x, kind, figure, 9, 1);
        int[] heights = {0, 1, 7};
        int[] due = {at0, at1, at7};
        for (int i = 0; i < 3; i++) {
            x.builds(9, heights[i]);
            DUE.is("weight of kind " + kind + ", " + figure, x.speaker(0, 4), due[i]);
            DUE.is("what he weighs for it", x.carries(1), due[i]);
            DUE.is("rent of kind " + kind, x.rent(0, 9), due[i] - at0);
        }
    }

    /** WEIGHT at the least heights and the greatest, with the figures beside each cut. */
    private static void weights() {
        for (int figure = 0; figure <= 9; figure++) {
            weigh(SPEAKER, figure, 1, 2, 8);
            weigh(WIDOW, figure, 0, 2, 14);
            weigh(3, figure, 0, 1, 7);
            weigh(LODGER, figure, 0, 0, 3);
            weigh(CHILD, figure, 9, 9, 9);
            weigh(OWNER, figure, figure, 2 + figure, 14 + figure);
        }
        int[] mutes = {0, 0, 0, 1, 1, 1, 2, 2, 2, 3};
        int[] priests = {3, 3, 4, 4, 5, 5, 6, 6, 7, 7};
        for (int figure = 0; figure <= 9; figure++) {
            weigh(2, figure, mutes[figure], mutes[figure], mutes[figure]);
            weigh(PRIEST, figure, priests[figure], priests[figure], priests[figure]);
        }
        // a lodger's half is cut at odd heights
        BalconiesParliament x = new BalconiesParliament();
        comes(x, LODGER, 9, 0, 0);
        int[] lodgers = {0, 0, 1, 1, 2, 2, 3, 3};
        for (int h = 0; h <= 7; h++) {
            x.builds(0, h);
            DUE.is("a lodger at " + h, x.speaker(0, 4), lodgers[h]);
        }
    }

    /** "VETO (of one AGAINST): OWNERS, and PRIESTS of MOOD -5 or less". */
    private static void vetoes() {
        for (int kind = 0; kind <= 7; kind++) {
            BalconiesParliament x = Due.street("q02;s000;s001;f01;f11;");
            int s = comes(x, kind, 9, 0, 0);
            for (int mood = -9; mood <= 9; mood++) {
                x.thinks(s, mood);
                boolean veto = kind == OWNER && mood <= -1 || kind == PRIEST && mood <= -5;
                DUE.is("kind " + kind + " of " + mood + " vetoes", x.carries(3), veto ? 4 : 0);
                DUE.is("it carries", x.carries(0), veto ? 0 : 1);
            }
        }
    }

    /** "nobody HEARD VETOES". */
    private static void vetoesOfThoseHeard() {
        BalconiesParliament x = Due.street("q02;s000;s001;f01;f11;");
        comes(x, OWNER, 0, 2, -1);
        comes(x, PRIEST, 0, 3, -5);
        DUE.is("two vetoes", x.carries(3), 4);
        x.shuts(2);
        DUE.is("the priest's", x.carries(3), 4);
        x.shuts(3);
        DUE.is("none is heard", x.carries(3), 0);
        x.shuts(2);
        DUE.is("the owner's", x.carries(3), 4);
        // each of seven may veto, the first and the last too
        BalconiesParliament y = Due.street("q01;s600;s601;s600;s601;s600;s601;s600;");
        for (int s = 0; s < 7; s++) {
            y.thinks(s, 1);
        }
        y.builds(0, 1);
        for (int s = 0; s < 7; s++) {
            DUE.is("nobody vetoes", y.carries(3), 0);
            y.thinks(s, -1);
            DUE.is(s + " vetoes", y.carries(3), 4);
            y.thinks(s, 1);
        }
    }

    /** SWAY at most, of a follower of mood 0 across from a widow of 9 (or of -9). */
    private static void sways() {
        int[][] sway = {
            {1, 1, 1, 1, 1, 1, 1, 1, 1, 1},
            {0, 0, 0, 0, 0, 0, 0, 0, 0, 0},
            {1, 1, 1, 1, 1, 1, 1, 1, 1, 1},
            {2, 2, 2, 2, 2, 2, 2, 2, 2, 2},
            {2, 2, 2, 3, 3, 3, 4, 4, 4, 5},
            {3, 3, 3, 3, 3, 3, 3, 3, 3, 3},
            {0, 0, 0, 0, 0, 0, 0, 0, 0, 0},
            {1, 1, 1, 1, 1, 1, 1, 1, 1, 1}
        };
        for (int kind = 0; kind <= 7; kind++) {
            for (int figure = 0; figure <= 9; figure++) {
                BalconiesParliament x = new BalconiesParliament();
                comes(x, kind, figure, 0, 0);
                comes(x, WIDOW, 0, 1, 9);
                DUE.is("sway of kind " + kind + ", " + figure, x.speaker(0, 6), sway[kind][figure]);
                DUE.is("up by it", x.moodThen(0, 1), sway[kind][figure]);
                x.thinks(1, -9);
                DUE.is("down by it", x.moodThen(0, 1), -sway[kind][figure]);
            }
        }
    }

    /** "those FOR weigh QUOTA or more together"; LACKS "0 at least". */
    private static void weighQuotaOrMore() {
        BalconiesParliament x = Due.street("s008;s009;f01;f11;");
        for (int quota = 1; quota <= 99; quota++) {
            x.quota(quota);
            DUE.is("10 with quota " + quota, x.carries(0), quota <= 10 ? 1 : 0);
            DUE.is("why", x.carries(3), quota <= 10 ? 0 : 3);
            DUE.is("lacks", x.carries(2), quota <= 10 ? 0 : quota - 10);
        }
        // of quota 1 at least somebody on either side has to weigh something
        x = Due.street("q01;s100;s101;f09;f19;");
        DUE.is("0 with quota 1", x.carries(3), 3);
        DUE.is("lacks", x.carries(2), 1);
        x.builds(0, 1);
        DUE.is("2 with quota 1", x.carries(3), 0);
    }

    /** Quota 99, weighed by 98, 99 and 100. */
    private static void theGreatestQuota() {
        // owners of 9 at height 7 weigh 23 each, a speaker at height 5 weighs 6
        BalconiesParliament x = Due.street("q99;b07;b17;s690;s690;s691;s691;f01;f11;f21;f31;b25;s002;f41;");
        DUE.is("98", x.carries(1), 98);
        DUE.is("lacks 1", x.carries(2), 1);
        DUE.is("98 of 99", x.carries(0), 0);
        DUE.is("most", x.quotaMost(), 98);
        x.builds(2, 6);
        DUE.is("99", x.carries(1), 99);
        DUE.is("lacks 0", x.carries(2), 0);
        DUE.is("99 of 99", x.carries(0), 1);
        DUE.is("most", x.quotaMost(), 99);
        x.builds(2, 7);
        DUE.is("100", x.carries(1), 100);
        DUE.is("most", x.quotaMost(), 99);
    }

    /** "no more than 1 HEIGHT higher or lower than he", for a day and for LINES. */
    private static void oneHeightHigherOrLower() {
        BalconiesParliament x = new BalconiesParliament();
        comes(x, SPEAKER, 0, 4, 0);
        comes(x, WIDOW, 0, 7, 9);
        for (int h = 0; h <= 7; h++) {
            for (int other = 0; other <= 7; other++) {
                x.builds(4, h);
                x.builds(7, other);
                boolean sees = h - other <= 1 && other - h <= 1;
                DUE.is(h + " sees " + other, x.moodThen(0, 1), sees ? 1 : 0);
                DUE.is("line from " + h + " to " + other, x.lines(0), sees ? 1 : 0);
            }
        }
    }

    /** "on the other SIDE", never on his own, nor himself. */
    private static void onTheOtherSide() {
        BalconiesParliament x = level();
        comes(x, SPEAKER, 0, 0, 0);
        comes(x, WIDOW, 0, 0, 9);
        for (int a = 0; a <= 9; a++) {
            for (int b = 0; b <= 9; b++) {
                x.goes(0, a);
                x.goes(1, b);
                DUE.is(a + " looks at " + b, x.moodThen(0, 1), (a + b) % 2);
                DUE.is("line from " + a + " to " + b, x.lines(0), (a + b) % 2);
            }
        }
        BalconiesParliament alone = new BalconiesParliament();
        comes(alone, CHILD, 0, 0, 7);
        DUE.is("alone he stays as he is", alone.moodThen(0, 60), 7);
    }

    private static BalconiesParliament level() {
        return Due.street("b00;b10;b20;b30;b40;b50;b60;b70;b80;b90;");
    }

    /** "he looks at those HEARD ..., whether he himself is HEARD or not". */
    private static void heardOrNot() {
        BalconiesParliament x = new BalconiesParliament();
        comes(x, SPEAKER, 0, 0, 0);
        comes(x, WIDOW, 0, 1, 9);
        comes(x, WIDOW, 0, 3, -9);
        DUE.is("the mean of both", x.moodThen(0, 1), 0);
        x.shuts(3);
        DUE.is("of the one who is heard", x.moodThen(0, 1), 1);
        x.shuts(0);
        DUE.is("he himself is not heard", x.moodThen(0, 1), 1);
        x.shuts(1);
        DUE.is("nobody is heard", x.moodThen(0, 1), 0);
        x.shuts(3);
        DUE.is("the other one", x.moodThen(0, 1), -1);
        DUE.is("lines are there, heard or not", x.lines(0), 2);
    }

    /** "towards the mean of theirs (cut towards 0)": who is there already stays, beside it goes there. */
    private static void cutTowards0() {
        BalconiesParliament x = level();
        comes(x, SPEAKER, 0, 0, 0);
        comes(x, WIDOW, 0, 1, 0);
        comes(x, WIDOW, 0, 3, 0);
        for (int a = -9; a <= 9; a++) {
            for (int b = a; b <= 9; b++) {
                x.thinks(1, a);
                x.thinks(2, b);
                int mean = a + b >= 0 ? (a + b) / 2 : -((-a - b) / 2);
                x.thinks(0, mean);
                DUE.is("mean of " + a + " and " + b, x.moodThen(0, 60), mean);
                x.thinks(0, Math.max(-9, mean - 1));
                DUE.is("up to that of " + a + " and " + b, x.moodThen(0, 1), mean);
                x.thinks(0, Math.min(9, mean + 1));
                DUE.is("down to that of " + a + " and " + b, x.moodThen(0, 1), mean);
            }
        }
        meansOfThree();
    }

    private static void meansOfThree() {
        BalconiesParliament x = level();
        comes(x, CHILD, 0, 0, 0);
        comes(x, WIDOW, 0, 1, 0);
        comes(x, WIDOW, 0, 3, 0);
        comes(x, WIDOW, 0, 5, 0);
        int[] sums = {-7, -6, -5, -4, -3, -2, -1, 0, 1, 2, 3, 4, 5, 6, 7};
        int[] means = {-2, -2, -1, -1, -1, 0, 0, 0, 0, 0, 1, 1, 1, 2, 2};
        for (int i = 0; i < sums.length; i++) {
            x.thinks(1, sums[i]);
            DUE.is("mean of three, " + sums[i] + " together", x.moodThen(0, 1), means[i]);
            x.thinks(1, sums[i] - 1);
            x.thinks(2, -1);
            x.thinks(3, 2);
            DUE.is("mean of three, " + sums[i] + " together", x.moodThen(0, 1), means[i]);
            x.thinks(2, 0);
            x.thinks(3, 0);
        }
    }

    /** "SPEAKERS by numbers, each", "as they are then": who comes later sees who went ahead of him. */
    private static void asTheyAreThen() {
        BalconiesParliament x = level();
        comes(x, CHILD, 0, 0, 0);
        comes(x, CHILD, 0, 1, 9);
        // 0 goes to 3 first, then 1 from 9 towards 3
        DUE.is("the first", x.moodThen(0, 1), 3);
        DUE.is("the second", x.moodThen(1, 1), 6);
        x.thinks(0, 9);
        x.thinks(1, 7);
        // 0 goes to 7 first: 1 has nothing to follow
        DUE.is("the first", x.moodThen(0, 1), 7);
        DUE.is("the second", x.moodThen(1, 1), 7);
        // two who go towards each other by 1 each, the first always ahead
        BalconiesParliament y = Due.street("s000;s001;f09;");
        DUE.is("0 goes down", y.moodThen(0, 1), 8);
        DUE.is("1 goes up", y.moodThen(1, 1), 1);
        DUE.is("they meet", y.moodThen(0, 5), y.moodThen(1, 5));
        DUE.is("they meet at", y.moodThen(0, 5), 4);
    }

    /** "by his SWAY, no farther": from each distance a child goes 3, or all the way. */
    private static void noFarther() {
        BalconiesParliament x = new BalconiesParliament();
        comes(x, CHILD, 0, 0, 0);
        comes(x, WIDOW, 0, 1, 0);
        for (int from = -9; from <= 9; from++) {
            for (int to = -9; to <= 9; to++) {
                x.thinks(0, from);
                x.thinks(1, to);
                int gap = to - from;
                int due = gap > 3 ? from + 3 : gap < -3 ? from - 3 : to;
                DUE.is("from " + from + " towards " + to, x.moodThen(0, 1), due);
                DUE.is("from " + from + " to " + to, x.moodThen(0, 6), to);
            }
        }
    }

    /** "DAY (0 .. 999)": days() -3, "if DAY and n together are above 999; none of them goes then". */
    private static void dayAbove999() {
        BalconiesParliament x = Due.street("s000;s191;f19;");
        for (int i = 0; i < 15; i++) {
            x.days(60);
        }
        x.days(39);
        x.thinks(0, -9);
        String before = State.of(x);
        DUE.is("939 and 61", x.days(61), -1);
        DUE.is("day", x.image(), 939);
        DUE.is("nothing went", moodOf(x, 0), -9);
        DUE.so("nothing went", State.of(x).equals(before));
        DUE.is("939 and 60", x.days(60), 0);
        DUE.is("day", x.count(1), 999);
        x.restore();
        x.days(1);
        before = State.of(x);
        DUE.is("940 and 60", x.days(60), -3);
        DUE.so("none of them goes", State.of(x).equals(before));
        DUE.is("by a text", Due.read(x, "d60;"), -2000);
        DUE.is("940 and 59", x.days(59), 0);
        DUE.is("999", x.image(), 999);
        for (int n = 1; n <= 60; n++) {
            DUE.is("999 and " + n, x.days(n), -3);
        }
        // in mind it may pass 999
        x.thinks(0, -9);
        DUE.is("then", x.moodThen(0, 60), 9);
        DUE.is("then", x.moodThen(0, 1), -8);
        DUE.is("day stays", x.count(1), 999);
    }
}
