/** "Terms", II., from THE LAW on: what rows tell, odds, seeds, at their bounds. */
public final class LawEdgesTest {
    private static final Due DUE = new Due();
    private static final int[] LEAST = {Byte.MIN_VALUE, Short.MIN_VALUE, Integer.MIN_VALUE};

    public static void main(String[] args) {
        lawOfNoneAndOfHundred();
        lawUnwhole();
        lawOfWhom();
        lawOfCarried();
        lawOfQuotas();
        whatIsOfNoneAndOfHundred();
        whatIsSkipped();
        whatIsOfHim();
        twoPairs();
        twoByMood();
        rainOdds();
        rainOfThoseInAlready();
        meanInLeastTerms();
        forgedRows();
        judgedRows();
        judgedSkipped();
        streetsFromNow();
        streetsBehindFiveDays();
        seedsWrapAround();
        drawsBelow();
        DUE.end("LawEdgesTest");
    }

    private static int[] filled(int n, int... beginning) {
        int[] row = new int[n];
        for (int i = 0; i < n; i++) {
            row[i] = beginning[i % beginning.length];
        }
        return row;
    }

    private static void law(BalconiesParliament x, int many, int least, int greatest, int... row) {
        for (int sort = 0; sort < 3; sort++) {
            Due.tell(x, sort, sort, row);
            DUE.is("how many", x.law(sort, 0), many);
            DUE.is("the least", x.law(sort, 1), least);
            DUE.is("the greatest", x.law(sort, 2), greatest);
            for (int i = 0; i < row.length; i++) {
                DUE.is("the row stays", Due.element(x, sort, i), row[i]);
            }
        }
    }

    private static void lawRefused(BalconiesParliament x, int... row) {
        for (int sort = 0; sort < 3; sort++) {
            Due.tell(x, 0, sort, row);
            for (int what = 0; what <= 2; what++) {
                DUE.is("not as it must be", x.law(0, what), -13);
            }
        }
    }

    /** "QUOTAS (1 .. 99)": of a row of 0 elements all of them; a row of 100 is 50 groups. */
    private static void lawOfNoneAndOfHundred() {
        law(new BalconiesParliament(), 99, 1, 99);
        BalconiesParliament x = Due.street("s008;s009;s004;");
        law(x, 99, 1, 99);
        law(x, 10, 1, 10, filled(100, 3, 1));
        int[] row = filled(100, 3, 1);
        row[98] = 6;
        row[99] = 0;
        law(x, 2, 9, 10, row);
        row[99] = 1;
        law(x, 8, 1, 8, row);
        row[99] = 2;
        lawRefused(x, row);
        row[99] = 1;
        row[98] = 8;
        lawRefused(x, row);
    }

    /** "-13 (unwhole": rows of 1, 3, 99 elements. */
    private static void lawUnwhole() {
        BalconiesParliament x = Due.street("s008;s009;");
        lawRefused(x, 3);
        lawRefused(x, 3, 1, 3);
        lawRefused(x, filled(99, 3, 1));
        law(x, 10, 1, 10, 3, 1);
    }

    /** "-13 (somebody who is not there": below 0, beyond the last one, for each number of speakers. */
    private static void lawOfWhom() {
        StringBuilder people = new StringBuilder("q50;");
        for (int n = 0; n <= 7; n++) {
            BalconiesParliament x = Due.street(people.toString());
            int most = (1 << n) - 1;
            for (int group = 0; group <= most; group++) {
                Due.tell(x, 0, 0, group, 0);
                DUE.so("group " + group + " of " + n, x.law(0, 0) >= 0);
            }
            lawRefused(x, -1, 0);
            if (n < 7) {
                lawRefused(x, most + 1, 0);
                lawRefused(x, 0, 0, most + 1, 0);
            }
            Due.tell(x, 0, 1, most + 1, 0);
            DUE.is("beyond the last, shorts", x.law(0, 0), -13);
            Due.tell(x, 0, 0, 128, 0);
            DUE.is("128 is -128 as a byte", x.law(0, 0), -13);
            Due.tell(x, 0, 0, 256, 0);
            DUE.is("256 is 0 as a byte", x.law(0, 0), 99);
            people.append("s00").append(n).append(';');
        }
    }

    /** "-13 (... neither 1 nor 0)". */
    private static void lawOfCarried() {
        BalconiesParliament x = Due.street("s008;s009;");
        law(x, 10, 1, 10, 3, 1);
        law(x, 89, 11, 99, 3, 0);
        // two by two: neither a number that carried nor one that didn't is a group
        law(x, 10, 1, 10, 3, 1, 1, 0);
        law(x, 10, 1, 10, 1, 0, 3, 1);
        law(x, 89, 11, 99, 3, 0, 1, 0, 0, 0);
        lawRefused(x, 3, 2);
        lawRefused(x, 3, -1);
        lawRefused(x, 3, 1, 3, 2);
        lawRefused(x, 3, -1, 3, 1);
        // of a skipped number the document says nothing here: it is neither
        for (int sort = 0; sort < 3; sort++) {
            Due.tell(x, 0, sort, 3, LEAST[sort]);
            DUE.is("nothing is skipped", x.law(0, 0), -13);
            Due.tell(x, 0, sort, LEAST[sort], 1);
            DUE.is("nothing is skipped", x.law(0, 0), -13);
        }
    }

    /** "how many QUOTAS (1 .. 99) there are ...; the least; the greatest (-4 none)": 0, 1, 98, 99. */
    private static void lawOfQuotas() {
        // weights 1 on each side: only quotas 1 and 2 for both
        BalconiesParliament x = Due.street("s100;s001;");
        law(x, 1, 1, 1, 3, 1);
        law(x, 98, 2, 99, 3, 0);
        law(x, 0, -4, -4, 3, 1, 3, 0);
        law(x, 0, -4, -4, 1, 1);
        law(x, 99, 1, 99, 1, 0);
        // weights 98, 99, 100 together
        x = Due.street("b07;b17;s690;s690;s691;s691;b25;s002;");
        law(x, 98, 1, 98, 31, 1);
        law(x, 1, 99, 99, 31, 0);
        x.builds(2, 6);
        law(x, 99, 1, 99, 31, 1);
        law(x, 0, -4, -4, 31, 0);
        x.builds(2, 7);
        law(x, 99, 1, 99, 31, 1);
        law(x, 0, -4, -4, 31, 0);
        // "(a GROUP COULD, if they are HEARD)": without those who aren't
        x.shuts(2);
        law(x, 92, 1, 92, 31, 1);
        x.shuts(1);
        law(x, 0, -4, -4, 31, 1);
        law(x, 99, 1, 99, 31, 0);
    }

    private static void whatIs(BalconiesParliament x, int kinds, int figures, int... row) {
        for (int sort = 0; sort < 3; sort++) {
            Due.tell(x, sort, sort, row);
            DUE.is("KINDS", x.whatIs(sort, 0, 0), kinds);
            DUE.is("FIGURES", x.whatIs(sort, 0, 1), figures);
            for (int i = 0; i < row.length; i++) {
                DUE.is("the row stays", Due.element(x, sort, i), row[i]);
            }
        }
    }

    /** "MOOD of one behind 0, 1, .. DAYS": a row of 0 elements tells nothing, one of 100 99 days. */
    private static void whatIsOfNoneAndOfHundred() {
        BalconiesParliament x = Due.street("s300;s101;f19;");
        whatIs(x, 255, 1023);
        whatIs(x, 255, 1023, 0);
        int[] row = filled(100, 9);
        for (int i = 0; i < 5; i++) {
            row[i] = 2 * i;
        }
        whatIs(x, 8 + 16, 1023, row);
        row[99] = 8;
        whatIs(x, 0, 0, row);
        // all that is told is that he stays as he is
        whatIs(x, 2 + 64, 0, filled(100, 0));
    }

    /** "(the least number of the SORT is skipped)": that one, not the one above it. */
    private static void whatIsSkipped() {
        BalconiesParliament x = Due.street("s300;s101;f19;");
        for (int sort = 0; sort < 3; sort++) {
            Due.tell(x, 0, sort, LEAST[sort], LEAST[sort], 4);
            DUE.is("the third alone", x.whatIs(0, 0, 0), 8 + 16);
            Due.tell(x, 0, sort, LEAST[sort]);
            DUE.is("nothing", x.whatIs(0, 0, 0), 255);
            Due.tell(x, 0, sort, filled(100, LEAST[sort]));
            DUE.is("nothing, 99 days long", x.whatIs(0, 0, 1), 1023);
            x.put(0, 99, 9);
            DUE.is("the 99th day", x.whatIs(0, 0, 0), 255 - 2 - 64);
            Due.tell(x, 0, sort, LEAST[sort] + 1);
            DUE.is("the one above is told", x.whatIs(0, 0, 0), 0);
            Due.tell(x, 0, sort, 0, LEAST[sort] + 1);
            DUE.is("the one above is told", x.whatIs(0, 0, 1), 0);
        }
        // the least of a lesser sort is no least number in a greater one
        Due.tell(x, 0, 1, LEAST[0]);
        DUE.is("-128 as a short", x.whatIs(0, 0, 0), 0);
        Due.tell(x, 0, 2, LEAST[1]);
        DUE.is("-32768 as an int", x.whatIs(0, 0, 0), 0);
        Due.tell(x, 0, 0, LEAST[1]);
        DUE.is("-32768 is 0 as a byte", x.whatIs(0, 0, 0), 255);
        Due.tell(x, 0, 0, 128);
        DUE.is("128 is -128 as a byte", x.whatIs(0, 0, 0), 255);
        Due.tell(x, 0, 1, 32768);
        DUE.is("32768 is -32768 as a short", x.whatIs(0, 0, 0), 255);
    }

    /** KINDS 0 .. 7 and FIGURES 0 .. 9, each by its sway, of the last speaker too. */
    private static void whatIsOfHim() {
        BalconiesParliament x = Due.street("s101;f09;s000;s000;s000;s000;s000;s490;");
        int[] kinds = {2 + 64, 1 + 4 + 128, 8, 32, 0, 16};
        int[] figures = {0, 0, 1 + 2 + 4, 8 + 16 + 32, 64 + 128 + 256, 512};
        for (int step = 0; step <= 5; step++) {
            Due.tell(x, 3, 0, 0, step);
            DUE.is("kinds by " + step, x.whatIs(3, 6, 0), kinds[step]);
            DUE.is("figures by " + step, x.whatIs(3, 6, 1), figures[step]);
        }
        String before = State.of(x);
        x.whatIs(3, 6, 0);
        x.whatIs(3, 6, 1);
        DUE.so("he is tried in mind only", State.of(x).equals(before));
    }

    /** "the first pair (10 the one's and the other's)": 0, 1, 10 are there. */
    private static void twoPairs() {
        BalconiesParliament x = Due.street("q01;s000;s001;f01;f11;");
        DUE.is("both, or none", x.two(0, 1), 0);
        x = Due.street("q01;s000;s001;s001;f01;f11;f21;");
        DUE.is("0 turns it", x.two(0, 1), 10);
        DUE.is("0 turns it, as the other", x.two(1, 0), 1);
        DUE.is("1 or 2 turns it", x.two(1, 2), 1);
        DUE.is("2 or 1 turns it", x.two(2, 1), 1);
        x = Due.street("q01;s000;s001;s002;s003;f01;f11;f21;f31;");
        DUE.is("it carries anyway", x.two(0, 1), 0);
        // the first of them would have it, the other not: he alone leans out
        x = Due.street("q01;s000;s001;s001;f01;f11;a21;");
        DUE.is("the one for it", x.two(1, 2), 10);
        DUE.is("the one for it, as the other", x.two(2, 1), 1);
        // by 1 less for leaning out, 5 for what he would have: 4 is more than 0
        x = Due.street("q99;s000;s001;s001;f01;f11;f21;");
        DUE.is("it can't carry", x.two(0, 1), 0);
        x = Due.street("q01;s000;s001;s001;");
        DUE.is("none would have it", x.two(1, 2), 0);
        x = Due.street("q01;o1;s000;s001;s001;f01;f11;f21;");
        DUE.is("leaning out unheard", x.two(1, 2), 0);
    }

    /** "each would have it CARRY, if his MOOD was above 0 ahead of that, else not". */
    private static void twoByMood() {
        BalconiesParliament x = Due.street("q01;s000;s001;s001;f25;");
        for (int mood = -9; mood <= 9; mood++) {
            x.thinks(0, mood);
            DUE.is("mood " + mood, x.two(0, 1), mood > 0 ? 10 : 0);
            DUE.is("mood stays", x.speaker(0, 3), mood + 9);
        }
        // who would veto doesn't, in (MOOD 0) or out (MOOD 9); a third one does
        x = Due.street("q01;s000;s601;s001;f01;a19;f25;");
        DUE.is("an owner in", x.two(0, 1), 10);
        DUE.is("an owner's veto", x.two(0, 2), 0);
    }

    private static void rain(BalconiesParliament x, int t, long above, long below) {
        DUE.is("rain of 1 in " + t + ", above", x.rain(t, 0), above);
        DUE.is("rain of 1 in " + t + ", below", x.rain(t, 1), below);
    }

    /** "with odds 1 in t (2 .. 20)", from nobody to seven. */
    private static void rainOdds() {
        rain(new BalconiesParliament(), 2, 0, 1);
        rain(new BalconiesParliament(), 20, 0, 1);
        StringBuilder people = new StringBuilder("q01;s000;f01;");
        rain(Due.street(people.toString()), 2, 0, 1);
        long out = 0;
        long all = 2;
        for (int n = 2; n <= 7; n++) {
            // all of side 1 in: it doesn't carry; the one of side 0 has to be out
            people.append("s001;f").append(n - 1).append("1;");
            BalconiesParliament x = Due.street(people.toString());
            out = 2 * out + 1;
            all = 2 * all;
            rain(x, 2, out, all);
        }
        BalconiesParliament x = Due.street(people.toString());
        rain(x, 20, 19L * (64000000 - 1), 1280000000L);
        rain(x, 3, 2L * (729 - 1), 2187);
        x.quota(7);
        rain(x, 20, 893871739L, 1280000000L);
        x.quota(8);
        rain(x, 20, 0, 1);
    }

    /** In, not heard, for who isn't heard anyway changes nothing; a veto may be in. */
    private static void rainOfThoseInAlready() {
        BalconiesParliament x = Due.street("q02;s000;s001;s600;f01;f11;");
        rain(x, 2, 1, 4);
        x.thinks(2, -1);
        rain(x, 2, 1, 8);
        x.goes(2, 2);
        x.shuts(2);
        rain(x, 2, 1, 4);
        x.shuts(0);
        rain(x, 2, 0, 1);
    }

    /** "a fraction in least terms, above 0 or below (0 by 1 of none)": all sums of two and of three. */
    private static void meanInLeastTerms() {
        DUE.is("none, above", new BalconiesParliament().mean(0), 0);
        DUE.is("none, below", new BalconiesParliament().mean(1), 1);
        BalconiesParliament one = Due.street("s000;");
        for (int mood = -9; mood <= 9; mood++) {
            one.thinks(0, mood);
            DUE.is("1 of " + mood, one.mean(0), mood);
            DUE.is("1 of " + mood, one.mean(1), 1);
        }
        BalconiesParliament x = Due.street("s000;s000;s000;s000;s000;s000;s000;");
        for (int mood = -9; mood <= 9; mood++) {
            for (int s = 0; s < 7; s++) {
                x.thinks(s, mood);
            }
            DUE.is("7 of " + mood, x.mean(0), mood);
            DUE.is("7 of " + mood, x.mean(1), 1);
            x.thinks(3, 0);
            DUE.is("6 of " + mood, x.mean(0), mood % 7 == 0 ? 6 * mood / 7 : 6 * mood);
            DUE.is("6 of " + mood, x.mean(1), mood % 7 == 0 ? 1 : 7);
        }
        BalconiesParliament y = Due.street("s000;s000;s000;s000;s000;s000;");
        int[] above = {-3, -4, -7, -1, -5, -2, -1, -1, -1, 0, 1, 1, 1, 2, 5, 1, 7, 4, 3};
        int[] below = {2, 3, 6, 1, 6, 3, 2, 3, 6, 1, 6, 3, 2, 3, 6, 1, 6, 3, 2};
        for (int mood = -9; mood <= 9; mood++) {
            y.thinks(5, mood);
            DUE.is(mood + " of 6, above", y.mean(0), above[mood + 9]);
            DUE.is(mood + " of 6, below", y.mean(1), below[mood + 9]);
        }
        y.shuts(0);
        DUE.is("of all, heard or not", y.mean(0), 3);
    }

    /** FORGED: "the first that is not so (no such one, too); -4": rows of 0, 9, 10, 11, 100. */
    private static void forgedRows() {
        for (int sort = 0; sort < 3; sort++) {
            BalconiesParliament x = level();
            x.row(0, sort, 0);
            DUE.is("0 elements", x.forged(0), -4);
            for (int n = 1; n <= 10; n++) {
                x.row(0, sort, n);
                DUE.is(n + " elements", x.forged(0), -4);
                x.put(0, n - 1, 1);
                DUE.is("the last of " + n, x.forged(0), n - 1);
                x.put(0, 0, 7);
                DUE.is("the first of " + n, x.forged(0), 0);
            }
            x.row(0, sort, 11);
            DUE.is("no such one", x.forged(0), 10);
            x.row(0, sort, 100);
            DUE.is("no such one", x.forged(0), 10);
            x.put(0, 10, LEAST[sort]);
            DUE.is("no such one, skipped or not", x.forged(0), 10);
            x.put(0, 9, LEAST[sort]);
            DUE.is("nothing is skipped", x.forged(0), 9);
            forgedHeights(x, sort);
        }
    }

    private static void forgedHeights(BalconiesParliament x, int sort) {
        x.row(0, sort, 10);
        for (int h = 0; h <= 7; h++) {
            x.builds(9, h);
            for (int told = -1; told <= 8; told++) {
                x.put(0, 9, told);
                DUE.is("height " + h + " told as " + told, x.forged(0), told == h ? -4 : 9);
            }
        }
        x.put(0, 9, 256 + 7);
        DUE.is("263 is 7 as a byte", x.forged(0), sort == 0 ? -4 : 9);
        x.put(0, 9, 65536 + 7);
        DUE.is("65543 is 7 as a byte and a short", x.forged(0), sort < 2 ? -4 : 9);
        x.shuts(9);
        DUE.is("shut or not", x.forged(0), sort < 2 ? -4 : 9);
        x.shuts(9);
    }

    private static BalconiesParliament level() {
        return Due.street("b00;b10;b20;b30;b40;b50;b60;b70;b80;b90;");
    }

    /** JUDGED: "(1, 0) behind 0, 1, .. DAYS: the first that is not so": rows of 0, 1, 100. */
    private static void judgedRows() {
        // it carries from the tenth day on
        BalconiesParliament x = Due.street("q13;s008;s199;a09;f19;");
        for (int sort = 0; sort < 3; sort++) {
            x.row(0, sort, 0);
            DUE.is("0 elements", x.judge(0), -4);
            x.row(0, sort, 1);
            DUE.is("now", x.judge(0), -4);
            x.put(0, 0, 1);
            DUE.is("not now", x.judge(0), 0);
            int[] row = new int[100];
            java.util.Arrays.fill(row, 10, 100, 1);
            Due.tell(x, 0, sort, row);
            DUE.is("100 elements", x.judge(0), -4);
            for (int i = 99; i >= 0; i--) {
                x.put(0, i, 1 - row[i]);
                DUE.is("the first that is not so", x.judge(0), i);
            }
            Due.tell(x, 0, sort, 2);
            DUE.is("2 is neither", x.judge(0), 0);
            Due.tell(x, 0, sort, -1);
            DUE.is("-1 is neither", x.judge(0), 0);
        }
        Due.tell(x, 0, 0, 256, 256, 256, 256, 256, 256, 256, 256, 256, 256, 257);
        DUE.is("256 and 257 are 0 and 1 as bytes", x.judge(0), -4);
        DUE.is("no day is lived", x.count(1), 0);
    }

    /** "(skipped likewise)". */
    private static void judgedSkipped() {
        BalconiesParliament x = Due.street("q13;s008;s199;a09;f19;");
        for (int sort = 0; sort < 3; sort++) {
            Due.tell(x, 0, sort, filled(100, LEAST[sort]));
            DUE.is("all are skipped", x.judge(0), -4);
            x.put(0, 9, 0);
            x.put(0, 10, 1);
            DUE.is("the days go on", x.judge(0), -4);
            x.put(0, 99, 0);
            DUE.is("the last one", x.judge(0), 99);
            x.put(0, 50, LEAST[sort] + 1);
            DUE.is("the one above the least", x.judge(0), 50);
            x.put(0, 10, 0);
            DUE.is("the tenth", x.judge(0), 10);
        }
        Due.tell(x, 0, 1, LEAST[0]);
        DUE.is("-128 as a short", x.judge(0), 0);
        Due.tell(x, 0, 2, LEAST[1]);
        DUE.is("-32768 as an int", x.judge(0), 0);
    }

    /** "then 5 DAYS: in how many it CARRIES; all FOR together", from 1 to 20 streets. */
    private static void streetsBehindFiveDays() {
        // a speaker goes towards the widow's mood by 1 a day, if she is across; he is drawn first
        BalconiesParliament x = Due.street("b07;b17;b27;b37;b47;b57;b67;b77;b87;b97;q01;s000;s100;");
        int most = 0;
        for (int seed = 100; seed < 160; seed++) {
            long[] draws = drawn(seed, 40);
            int carried = 0;
            int weighs = 0;
            for (int n = 1; n <= 20; n++) {
                int at = 4 * n - 4;
                boolean across = draws[at] % 2 != draws[at + 2] % 2;
                long widow = draws[at + 3] - 9;
                long mood = draws[at + 1] - 9;
                for (int day = 1; day <= 5 && across; day++) {
                    mood += Long.signum(widow - mood);
                }
                carried += across && mood > 0 && widow > 0 ? 1 : 0;
                weighs += (mood > 0 ? 8 : 0) + (widow > 0 ? 14 : 0);
                DUE.is(n + " carry, seed " + seed, x.streets(n, seed, 0), carried);
                DUE.is(n + " weigh, seed " + seed, x.streets(n, seed, 1), weighs);
            }
            most = Math.max(most, carried);
        }
        DUE.so("some carry more than once", most > 2);
    }

    /** One who draws alone: two draws a street, each street from now, one behind the other. */
    private static long[] drawn(int seed, int streets) {
        long[] draws = new long[2 * streets];
        java.math.BigInteger z = java.math.BigInteger.valueOf(seed);
        java.math.BigInteger round = java.math.BigInteger.ONE.shiftLeft(32);
        for (int i = 0; i < draws.length; i++) {
            z = z.multiply(java.math.BigInteger.valueOf(1103515245)).add(java.math.BigInteger.valueOf(12345)).mod(round);
            long withoutSign = z.longValue() & 0x7fffffffL;
            draws[i] = withoutSign / 65536 % (i % 2 == 0 ? 10 : 19);
        }
        return draws;
    }

    /** A child weighs 9 wherever he is, if he is for it: FOR tells how many of the moods are. */
    private static void streets(BalconiesParliament x, int n, int seed) {
        long[] draws = drawn(seed, n);
        int weighs = 0;
        for (int street = 0; street < n; street++) {
            weighs += draws[2 * street + 1] - 9 > 0 ? 9 : 0;
        }
        DUE.is(n + " streets, seed " + seed, x.streets(n, seed, 1), weighs);
        DUE.is("nobody across", x.streets(n, seed, 0), 0);
    }

    /** "n (1 .. 20), each from now": whatever he is now, and nothing changes. */
    private static void streetsFromNow() {
        DUE.is("nobody", new BalconiesParliament().streets(20, 1, 0), 0);
        DUE.is("nobody", new BalconiesParliament().streets(20, 1, 1), 0);
        BalconiesParliament x = Due.street("q01;s500;f09;");
        String before = State.of(x);
        for (int n = 1; n <= 20; n++) {
            streets(x, n, 1);
            streets(x, n, -7);
        }
        DUE.so("nothing changes", State.of(x).equals(before));
        x.thinks(0, -9);
        x.goes(0, 9);
        for (int n = 1; n <= 20; n++) {
            streets(x, n, 1);
        }
        // heights and shutters are those of now
        for (int b = 0; b <= 9; b++) {
            x.shuts(b);
        }
        DUE.is("not heard", x.streets(20, 1, 1), 0);
    }

    /** "z becomes z times 1103515245 plus 12345 (an int)": it wraps around, its sign's bit apart. */
    private static void seedsWrapAround() {
        BalconiesParliament x = Due.street("q01;s500;");
        int[] seeds = {
            Integer.MIN_VALUE, Integer.MIN_VALUE + 1, -65536, -2, -1, 0, 1, 2, 3, 32767, 65536,
            1103515245, -1103515245, Integer.MAX_VALUE - 1, Integer.MAX_VALUE
        };
        for (int seed : seeds) {
            streets(x, 1, seed);
            streets(x, 20, seed);
        }
        for (int i = 0; i < 200; i++) {
            streets(x, 3, i * 21474837 - 2000000000);
        }
    }

    /** "a DRAW below 10", "a DRAW below 19 less 9": the least and the greatest of both are drawn. */
    private static void drawsBelow() {
        // a widow's weight tells the balcony, one of each height; quota 1 is never across
        BalconiesParliament x = Due.street("b00;b11;b22;b33;b44;b55;b66;b77;b81;b97;s100;");
        int[] heights = {0, 1, 2, 3, 4, 5, 6, 7, 1, 7};
        boolean[] balconies = new boolean[10];
        boolean[] moods = new boolean[19];
        for (int seed = 0; seed < 400; seed++) {
            long[] draws = drawn(seed, 1);
            balconies[(int) draws[0]] = true;
            moods[(int) draws[1]] = true;
            int due = draws[1] > 9 ? 2 * heights[(int) draws[0]] : 0;
            DUE.is("seed " + seed, x.streets(1, seed, 1), due);
        }
        for (boolean one : balconies) {
            DUE.so("each balcony is drawn", one);
        }
        for (boolean one : moods) {
            DUE.so("each mood is drawn", one);
        }
    }
}
