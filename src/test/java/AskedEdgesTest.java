/** "Terms", II., up to LOUDEST: what carries, groups, powers, who is to be won, rails. */
public final class AskedEdgesTest {
    private static final Due DUE = new Due();
    private static final String SEVEN = "s000;s001;s000;s001;s000;s001;s000;";

    public static void main(String[] args) {
        whyTheFirst();
        lacks();
        daysInMind();
        pastDay999();
        whenFirst();
        holdsAtTheirEnd();
        couldOfNobodyAndOfAll();
        couldByWeight();
        powerOfOneAndOfSeven();
        powerOfThoseNotHeard();
        smallestAndLeast();
        blocks();
        swings();
        winAndStop();
        guests();
        shutters();
        quotaMost();
        rents();
        bestRails();
        matches();
        linesOfSeven();
        loudest();
        DUE.end("AskedEdgesTest");
    }

    private static BalconiesParliament level(String text) {
        return Due.street("b00;b10;b20;b30;b40;b50;b60;b70;b80;b90;" + text);
    }

    /** "WHY not: ... (the first of these)": each of 16 ways to be hindered. */
    private static void whyTheFirst() {
        for (int hindered = 0; hindered < 16; hindered++) {
            BalconiesParliament x = Due.street("s008;s009;s600;");
            x.thinks(0, (hindered & 1) != 0 ? 0 : 1);
            x.thinks(1, (hindered & 2) != 0 ? 0 : 1);
            x.quota((hindered & 4) != 0 ? 11 : (hindered & 3) == 0 ? 10 : 1);
            x.thinks(2, (hindered & 8) != 0 ? -1 : 0);
            int[] why = {0, 1, 2, 1, 3, 1, 2, 1, 4, 1, 2, 1, 3, 1, 2, 1};
            DUE.is("why not, hindered by " + hindered, x.carries(3), why[hindered]);
            DUE.is("carries, hindered by " + hindered, x.carries(0), hindered == 0 ? 1 : 0);
        }
        DUE.is("nobody there", new BalconiesParliament().carries(3), 1);
    }

    /** "LACKS: how much that is below QUOTA (0 at least)", also if it is not weight that lacks. */
    private static void lacks() {
        BalconiesParliament x = Due.street("s008;s009;f01;");
        int[] quotas = {1, 4, 5, 6, 99};
        int[] lacks = {0, 0, 0, 1, 94};
        for (int i = 0; i < 5; i++) {
            x.quota(quotas[i]);
            DUE.is("lacks of " + quotas[i], x.carries(2), lacks[i]);
            DUE.is("why", x.carries(3), 2);
        }
        x.shuts(8);
        DUE.is("all of it lacks", x.carries(2), 99);
    }

    /** "In mind, n DAYS on (0 .. 60)": 0 is now, and nothing is lived. */
    private static void daysInMind() {
        BalconiesParliament x = Due.street("q06;s000;s191;a09;f19;b15;b06;");
        String before = State.of(x);
        for (int n = 0; n <= 60; n++) {
            int mood = Math.min(9, n - 9);
            DUE.is("mood " + n + " days on", x.moodThen(0, n), mood);
            DUE.is("for then", x.then(n, 1), 10 + (mood > 0 ? 7 : 0));
            DUE.is("carries then", x.then(n, 0), mood > 0 ? 1 : 0);
            DUE.is("holds", x.holds(n), Math.max(0, n - 9));
        }
        DUE.so("nothing is lived", State.of(x).equals(before));
    }

    /** "(DAY may pass 999 there)". */
    private static void pastDay999() {
        BalconiesParliament x = Due.street("q06;s000;s191;f19;b15;b06;");
        for (int i = 0; i < 16; i++) {
            x.days(60);
        }
        x.days(39);
        x.thinks(0, -9);
        DUE.is("day", x.count(1), 999);
        DUE.is("no day more", x.days(1), -3);
        DUE.is("mood", x.moodThen(0, 60), 9);
        DUE.is("carries", x.then(60, 0), 1);
        DUE.is("for", x.then(60, 1), 17);
        DUE.is("when", x.when(), 10);
        DUE.is("holds", x.holds(60), 51);
        DUE.is("guest", x.guest(0, 60, 1), 51);
        DUE.is("shutter", x.shutter(60), -4);
        Due.tell(x, 0, 0, 0, 0, 0, 0, 0, 0, 0, 0, 0, 0, 1, 1);
        DUE.is("judge", x.judge(0), -4);
        Due.tell(x, 0, 0, -9, -8, -7);
        DUE.is("what he is", x.whatIs(0, 0, 0), 1 + 4 + 128);
        DUE.so("streets", x.streets(20, 7, 1) >= 0);
        DUE.is("day stays", x.count(1), 999);
    }

    /** "behind how many DAYS (0 .. 60) it CARRIES first; -4": 0, each mood's day, as late as can be. */
    private static void whenFirst() {
        BalconiesParliament x = Due.street("q06;s000;s191;f19;b15;b06;");
        for (int mood = -9; mood <= 9; mood++) {
            x.thinks(0, mood);
            DUE.is("when of " + mood, x.when(), Math.max(0, 1 - mood));
        }
        x.thinks(0, -9);
        x.quota(18);
        DUE.is("never", x.when(), -4);
        // seven who draw each other for 20 days
        BalconiesParliament late = Due.street("b04;b13;b23;b35;b47;b56;b61;b71;b85;b97;q40;");
        int[][] ones = {{6, 8, 1, 9}, {6, 1, 1, 9}, {7, 3, 4, 1}, {3, 4, 5, 1}, {4, 3, 8, -8}, {0, 0, 3, 6}, {2, 7, 0, -9}};
        for (int[] one : ones) {
            late.keep(0, 1, one[0], one[1]);
            late.thinks(late.comes(0, one[2]), one[3]);
        }
        DUE.is("when", late.when(), 20);
        for (int n = 0; n <= 60; n++) {
            DUE.is("carries " + n + " days on", late.then(n, 0), n >= 20 ? 1 : 0);
        }
        DUE.is("not on the way", late.holds(19), 0);
        DUE.is("first", late.holds(20), 1);
    }

    /** "on how many of the next n DAYS it CARRIES at their end": not now, all of them, some. */
    private static void holdsAtTheirEnd() {
        BalconiesParliament x = Due.street("s008;s009;f01;f11;");
        for (int n = 0; n <= 60; n++) {
            DUE.is("each of " + n, x.holds(n), n);
        }
        // on the first day's end it doesn't, now it does: he follows the two against it
        BalconiesParliament y = Due.street("q06;s008;s109;s109;s101;b14;f01;a19;a29;f39;");
        DUE.is("now", y.carries(0), 1);
        DUE.is("none of 0", y.holds(0), 0);
        DUE.is("none of 1", y.holds(1), 0);
        DUE.is("none of 60", y.holds(60), 0);
        DUE.is("when", y.when(), 0);
        DUE.is("nobody", new BalconiesParliament().holds(60), 0);
    }

    /** "GROUP (bits; those not HEARD count nothing)": nobody, one, all seven. */
    private static void couldOfNobodyAndOfAll() {
        DUE.is("nobody is there", new BalconiesParliament().could(0), 0);
        DUE.is("somebody who is not", new BalconiesParliament().could(1), -1);
        BalconiesParliament x = Due.street("q07;" + SEVEN);
        DUE.is("nobody", x.could(0), 0);
        DUE.is("all", x.could(127), 1);
        DUE.is("all but one", x.could(126), 0);
        DUE.is("one more", x.could(128), -1);
        x.shuts(1);
        DUE.is("side 1 is not heard", x.could(127), 0);
        DUE.is("none of them is", x.could(2 + 8 + 32), 0);
        x.quota(1);
        DUE.is("not across", x.could(127), 0);
        x.shuts(1);
        DUE.is("heard again", x.could(3), 1);
        x.quota(2);
        DUE.is("two weigh 2", x.could(3), 1);
        x.quota(3);
        DUE.is("and no more", x.could(3), 0);
    }

    /** "on either SIDE, by WEIGHT", "AGAINST or not": moods and vetoes don't matter. */
    private static void couldByWeight() {
        BalconiesParliament x = Due.street("q10;s008;s009;s600;a09;a19;a29;");
        for (int group = 0; group < 8; group++) {
            DUE.is("could " + group, x.could(group), (group & 3) == 3 ? 1 : 0);
        }
        x.quota(11);
        DUE.is("10 of 11", x.could(7), 0);
        x.quota(9);
        DUE.is("10 of 9", x.could(3), 1);
        DUE.is("one side", x.could(5), 0);
    }

    private static void power(BalconiesParliament x, int s, long above, long below) {
        DUE.is("power of " + s + ", above", x.power(s, 0), above);
        DUE.is("power of " + s + ", below", x.power(s, 1), below);
    }

    /** "of all orders of those HEARD the part ...: a fraction in least terms". */
    private static void powerOfOneAndOfSeven() {
        BalconiesParliament x = Due.street("q01;s000;");
        power(x, 0, 0, 1);
        x = Due.street("q02;s000;s001;");
        power(x, 0, 1, 2);
        power(x, 1, 1, 2);
        x.quota(3);
        power(x, 0, 0, 1);
        power(x, 1, 0, 1);
        // all seven are needed: the last one turns it
        x = Due.street("q07;" + SEVEN);
        for (int s = 0; s < 7; s++) {
            power(x, s, 1, 7);
        }
        // one alone on his side: he turns it wherever he isn't first, the others behind him alone
        x = Due.street("q01;s000;s001;s001;s001;s001;s001;s001;");
        power(x, 0, 6, 7);
        for (int s = 1; s < 7; s++) {
            power(x, s, 1, 42);
        }
    }

    /** "(0 by 1, if he is not HEARD)"; of those who are the orders are fewer. */
    private static void powerOfThoseNotHeard() {
        BalconiesParliament x = Due.street("q02;s000;s001;s003;s005;");
        power(x, 0, 3, 4);
        power(x, 1, 1, 12);
        x.shuts(5);
        power(x, 3, 0, 1);
        power(x, 0, 2, 3);
        power(x, 1, 1, 6);
        x.shuts(3);
        power(x, 2, 0, 1);
        power(x, 0, 1, 2);
        power(x, 1, 1, 2);
        x.shuts(1);
        power(x, 1, 0, 1);
        power(x, 0, 0, 1);
        x.shuts(0);
        power(x, 0, 0, 1);
    }

    private static void groups(BalconiesParliament x, int smallest, int least, int blocks) {
        DUE.is("SMALLEST", x.groups(0), smallest);
        DUE.is("HOW MANY least ones", x.groups(1), least);
        DUE.is("BLOCKS", x.groups(2), blocks);
    }

    /** "SMALLEST: the fewest (bits, of several the least) that COULD; -4", "HOW MANY least ones". */
    private static void smallestAndLeast() {
        groups(new BalconiesParliament(), -4, 0, 0);
        BalconiesParliament x = Due.street("q02;" + SEVEN);
        groups(x, 3, 12, 0);
        x.quota(3);
        // two of a side and one of the other: 6 by 3, and 4 by 3
        groups(x, 7, 6 * 3 + 4 * 3, 0);
        x.quota(7);
        groups(x, 127, 1, 127);
        x.quota(8);
        groups(x, -4, 0, 127);
        // the least of several is that of least bits, not of the fewest weights
        x = Due.street("q04;s001;s008;s008;s001;");
        groups(x, 3, 4, 0);
        x.shuts(8);
        x.quota(1);
        groups(x, -4, 0, 9);
        // the highest bits alone
        x = Due.street("q16;s000;s000;s000;s000;s000;s508;s509;");
        groups(x, 96, 1, 96);
    }

    /** "BLOCKS: those (bits) without each of whom the others HEARD, all together, could not". */
    private static void blocks() {
        BalconiesParliament x = Due.street("q02;s000;s001;s001;");
        groups(x, 3, 2, 1);
        x.shuts(0);
        // who isn't heard blocks nothing; of those heard each does, where even all could not
        groups(x, -4, 0, 6);
        x.shuts(0);
        x.quota(3);
        groups(x, 7, 1, 7);
    }

    /** "SWINGS of one: in how many GROUPS that COULD it could not be without him". */
    private static void swings() {
        BalconiesParliament x = Due.street("q01;s000;s001;s001;s001;s001;s001;s001;");
        DUE.is("he alone on his side", x.swings(0), 63);
        for (int s = 1; s < 7; s++) {
            DUE.is("one of six", x.swings(s), 1);
        }
        x.quota(7);
        for (int s = 0; s < 7; s++) {
            DUE.is("all are needed", x.swings(s), 1);
        }
        x.quota(8);
        for (int s = 0; s < 7; s++) {
            DUE.is("they could not", x.swings(s), 0);
        }
        x.quota(1);
        x.shuts(0);
        DUE.is("not heard", x.swings(0), 0);
        DUE.is("without him", x.swings(1), 0);
    }

    /** "WIN: the fewest ..., MOOD, 9 now"; "STOP ... -9 now (0 it does not now)"; "-4". */
    private static void winAndStop() {
        BalconiesParliament x = new BalconiesParliament();
        DUE.is("nobody to be won", x.win(0), -4);
        DUE.is("nothing to stop", x.win(1), 0);
        x = Due.street("q07;" + SEVEN);
        DUE.is("all seven", x.win(0), 127);
        DUE.is("it doesn't carry", x.win(1), 0);
        x.quota(8);
        DUE.is("not even all", x.win(0), -4);
        x.quota(2);
        DUE.is("two, the least", x.win(0), 3);
        Due.read(x, "f01;f11;f21;f31;f41;f51;f61;");
        DUE.is("it carries: nobody", x.win(0), 0);
        DUE.is("a whole side", x.win(1), 2 + 8 + 32);
        x.quota(7);
        DUE.is("one is enough", x.win(1), 1);
        // one against it who vetoes is to be won; one FOR it who would veto stops it
        x = Due.street("q02;s000;s001;s000;s001;s700;f01;f11;f21;f31;a45;");
        DUE.is("the priest", x.win(0), 16);
        DUE.is("stopped already", x.win(1), 0);
        x.thinks(4, -4);
        DUE.is("no veto yet", x.win(0), 0);
        DUE.is("the priest", x.win(1), 16);
        x.shuts(0);
        DUE.is("side 0 is not heard", x.win(0), -4);
        DUE.is("nothing to stop", x.win(1), 0);
    }

    private static void guest(BalconiesParliament x, int s, int n, int where, int many) {
        DUE.is("guest(" + s + ", " + n + ", 0)", x.guest(s, n, 0), where);
        DUE.is("guest(" + s + ", " + n + ", 1)", x.guest(s, n, 1), many);
    }

    /** "of several the least; how many": 0 of no days, all of all days, the last BALCONY alone. */
    private static void guests() {
        BalconiesParliament x = Due.street("s008;s009;f01;f11;");
        guest(x, 0, 0, 0, 0);
        guest(x, 0, 60, 8, 60);
        guest(x, 1, 60, 9, 60);
        x.quota(5);
        guest(x, 0, 60, 0, 60);
        guest(x, 1, 1, 1, 1);
        x.quota(11);
        guest(x, 0, 60, 0, 0);
        x.builds(8, 7);
        guest(x, 0, 60, 8, 60);
        x.builds(8, 4);
        x.builds(9, 7);
        guest(x, 0, 60, 4, 60);
        guest(x, 1, 60, 9, 60);
        // where he is he would do as well as elsewhere: still the least
        x = Due.street("q01;s004;s009;f01;f11;");
        guest(x, 0, 5, 0, 5);
        DUE.is("only in mind", x.speaker(0, 2), 4);
        // he has most days where he sees her: at 0 none, at 6 and 8 all but the first two
        x = Due.street("q05;s000;s109;a02;f19;");
        guest(x, 0, 2, 0, 0);
        guest(x, 0, 3, 6, 1);
        guest(x, 0, 60, 6, 58);
    }

    /** "more than now, of several the least; -4": no more days is not more. */
    private static void shutters() {
        BalconiesParliament x = new BalconiesParliament();
        DUE.is("nobody", x.shutter(60), -4);
        // all balconies but the two are as good shut: not more than now
        x = Due.street("s008;s009;f01;f11;");
        DUE.is("it holds all days", x.shutter(60), -4);
        x.shuts(8);
        DUE.is("8 not any more", x.shutter(60), 8);
        DUE.is("on one day", x.shutter(1), 8);
        DUE.is("on none", x.shutter(0), -4);
        x.shuts(9);
        DUE.is("both would be wanted", x.shutter(60), -4);
        // an owner's on the first balcony, on the last one
        x = Due.street("q04;s003;s004;f01;f11;s600;a29;");
        DUE.is("the first", x.shutter(7), 0);
        x.goes(2, 9);
        DUE.is("the last", x.shutter(7), 9);
        DUE.is("only in mind", x.count(6), 0);
        x.shuts(9);
        DUE.is("shut already", x.shutter(7), -4);
        // two ways for as many days: the least
        x = Due.street("q04;s003;s004;s006;f01;f11;f21;s600;a39;o4;o6;");
        DUE.is("one is not enough", x.shutter(7), -4);
        x.shuts(0);
        DUE.is("of 4 and 6 the least", x.shutter(7), 4);
        // a day more wins over a lesser number: he of 6 is for it now, he of 4 only from the second day on
        x = Due.street("q05;s193;s004;s006;f09;a11;f25;o4;o6;");
        DUE.is("6, for a day more", x.shutter(7), 6);
        x.thinks(1, 1);
        DUE.is("of both the least", x.shutter(7), 4);
    }

    /** "the greatest QUOTA (1 .. 99) with which it CARRIES now; -4". */
    private static void quotaMost() {
        DUE.is("nobody", new BalconiesParliament().quotaMost(), -4);
        BalconiesParliament x = Due.street("q99;s100;s001;f01;f11;");
        DUE.is("1 is the least", x.quotaMost(), 1);
        x.goes(1, 0);
        DUE.is("not across", x.quotaMost(), -4);
        x = Due.street("s100;s101;f01;f11;");
        DUE.is("they weigh 0", x.quotaMost(), -4);
        x = Due.street("q01;s008;s009;s600;f01;f11;");
        DUE.is("whatever it is", x.quotaMost(), 10);
        x.thinks(2, -1);
        DUE.is("a veto", x.quotaMost(), -4);
        x.shuts(0);
        DUE.is("not heard", x.quotaMost(), 10);
        DUE.is("it stays", x.count(2), 1);
    }

    /** "RENT ...: by how much more he weighs there than at HEIGHT 0". */
    private static void rents() {
        BalconiesParliament x = Due.street("s100;");
        for (int h = 0; h <= 7; h++) {
            x.builds(9, h);
            DUE.is("rent at " + h, x.rent(0, 9), 2 * h);
        }
        DUE.is("rent at 0", x.rent(0, 0), 0);
        x.builds(0, 7);
        DUE.is("where he is doesn't matter", x.rent(0, 1), 0);
        DUE.is("rent at 7", x.rent(0, 0), 14);
        x.shuts(9);
        DUE.is("nor a shutter", x.rent(0, 9), 14);
    }

    /** "the BALCONY at which he weighs most, of several the least". */
    private static void bestRails() {
        BalconiesParliament x = level("s000;s490;s590;");
        for (int s = 0; s < 3; s++) {
            DUE.is("all alike", x.bestRail(s), 0);
        }
        for (int b = 0; b <= 9; b++) {
            x.builds(b, 1);
            DUE.is("the only one", x.bestRail(0), b);
            x.builds(b, 0);
        }
        x.builds(9, 1);
        DUE.is("the last alone", x.bestRail(0), 9);
        DUE.is("a lodger's half of 1", x.bestRail(1), 0);
        DUE.is("a child's", x.bestRail(2), 0);
        x.builds(5, 2);
        x.builds(7, 3);
        DUE.is("the highest", x.bestRail(0), 7);
        DUE.is("a lodger's halves of 2 and 3 are one", x.bestRail(1), 5);
        x.builds(4, 3);
        DUE.is("of several the least", x.bestRail(0), 4);
        x.shuts(4);
        DUE.is("shut or not", x.bestRail(0), 4);
    }

    /** MATCH of nobody, of one, of seven; "nobody and none twice", "the first such". */
    private static void matches() {
        BalconiesParliament x = new BalconiesParliament();
        DUE.is("nobody", x.match(-1), 0);
        x = level(SEVEN);
        DUE.is("seven of 1", x.match(-1), 7);
        for (int s = 0; s < 7; s++) {
            DUE.is("by speakers, the least balconies", x.match(s), s);
        }
        x.builds(9, 7);
        DUE.is("one of 8", x.match(-1), 14);
        for (int s = 0; s < 7; s++) {
            DUE.is("the last one goes there", x.match(s), s == 6 ? 9 : s);
        }
        x.builds(8, 7);
        x.builds(7, 7);
        DUE.is("three of 8", x.match(-1), 4 + 3 * 8);
        for (int s = 0; s < 7; s++) {
            DUE.is("the last three", x.match(s), s < 4 ? s : s + 3);
        }
        x = level("s000;");
        DUE.is("one", x.match(0), 0);
        for (int b = 0; b <= 9; b++) {
            x.builds(b, 1);
            DUE.is("one", x.match(0), b);
            DUE.is("one", x.match(-1), 2);
            x.builds(b, 0);
        }
    }

    /** LINES of nobody, of one, of seven; each two once. */
    private static void linesOfSeven() {
        BalconiesParliament x = level("s000;");
        DUE.is("one", x.lines(0), 0);
        x = level(SEVEN);
        DUE.is("4 by 3", x.lines(0), 12);
        for (int b = 0; b <= 9; b++) {
            x.shuts(b);
        }
        DUE.is("heard or not", x.lines(0), 12);
        x.builds(0, 1);
        DUE.is("1 apart", x.lines(0), 12);
        x.builds(0, 2);
        DUE.is("2 apart", x.lines(0), 0);
        x.builds(1, 3);
        DUE.is("1 apart, the other way", x.lines(0), 12);
        x.builds(1, 4);
        DUE.is("2 apart, the other way", x.lines(0), 0);
        x.goes(0, 2);
        x.goes(1, 3);
        DUE.is("these two alone", x.lines(0), 1);
    }

    /** "who weighs most of those HEARD, of several the least; -4". */
    private static void loudest() {
        DUE.is("nobody", new BalconiesParliament().lines(1), -4);
        BalconiesParliament x = level("s000;s001;s002;s003;s004;s005;s506;");
        DUE.is("a child", x.lines(1), 6);
        x.shuts(6);
        DUE.is("of six alike the least", x.lines(1), 0);
        for (int b = 0; b < 5; b++) {
            x.shuts(b);
            DUE.is("the next", x.lines(1), b + 1);
        }
        x.shuts(5);
        DUE.is("none is heard", x.lines(1), -4);
        // for it or not
        x = Due.street("s000;s101;s002;a29;f09;");
        DUE.is("who is against it", x.lines(1), 2);
        x = Due.street("s200;s100;");
        DUE.is("who weighs 0", x.lines(1), 0);
    }
}
