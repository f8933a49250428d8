/** Promises 25 to 28: rents of rails, who had best lean where, who sees whom. */
public final class RailsTest {
    private static final Due DUE = new Due();

    public static void main(String[] args) {
        promise25();
        promise26();
        promise27();
        promise28();
        DUE.end("RailsTest");
    }

    private static void promise25() {
        // at height 7, by kinds: speaker 7, widow 14, mute 0, tenant 7, lodger 3, child 0, owner 14
        BalconiesParliament x = Due.street("b57;o5;s090;s190;s290;s390;s490;s590;s690;");
        int[] rents = {7, 14, 0, 7, 3, 0, 14};
        for (int s = 0; s < 7; s++) {
            DUE.is("25: rent(" + s + ", 5)", x.rent(s, 5), rents[s]);
            DUE.is("25: rent(" + s + ", 1)", x.rent(s, 1), 0);
        }
        DUE.is("25: rent(0, 9)", x.rent(0, 9), 4);
        DUE.is("25: rent(7, 0)", x.rent(7, 0), 1000000001);
        DUE.is("25: rent(-1, 0)", x.rent(-1, 0), 1000000001);
        DUE.is("25: rent(0, 10)", x.rent(0, 10), 1000000001);
        DUE.is("25: rent(0, -1)", x.rent(0, -1), 1000000001);
        x = Due.street("s790;");
        DUE.is("25: a priest's", x.rent(0, 9), 0);
    }

    private static void promise26() {
        BalconiesParliament x = Due.street("s000;s590;s490;");
        DUE.is("26: a speaker's, of 8 and 9", x.bestRail(0), 8);
        DUE.is("26: a child's", x.bestRail(1), 0);
        DUE.is("26: a lodger's: half of 4", x.bestRail(2), 8);
        x.builds(3, 5);
        x.shuts(3);
        DUE.is("26: a speaker's, shut or not", x.bestRail(0), 3);
        DUE.is("26: a lodger's: half of 5, cut", x.bestRail(2), 3);
        x.builds(8, 3);
        x.builds(9, 3);
        x.builds(1, 6);
        DUE.is("26: a lodger's: half of 6", x.bestRail(2), 1);
        DUE.is("26: bestRail(3)", x.bestRail(3), -1);
        DUE.is("26: bestRail(-1)", x.bestRail(-1), -1);
    }

    private static void promise27() {
        BalconiesParliament x = new BalconiesParliament();
        DUE.is("27: nobody", x.match(-1), 0);
        DUE.is("27: no such one", x.match(0), -1);
        // a widow has 2 for each height, a speaker 1: the widow gets 9 only behind another's 8
        x = Due.street("s000;s100;");
        DUE.is("27: weight", x.match(-1), 13);
        DUE.is("27: the speaker", x.match(0), 8);
        DUE.is("27: the widow", x.match(1), 9);
        x.builds(9, 3);
        DUE.is("27: weight", x.match(-1), 12);
        DUE.is("27: the speaker", x.match(0), 6);
        DUE.is("27: the widow", x.match(1), 8);
        x.shuts(8);
        DUE.is("27: shut or not", x.match(1), 8);
        DUE.is("27: match(2)", x.match(2), -1);
        DUE.is("27: match(-2)", x.match(-2), -1);
        DUE.is("27: match(MIN)", x.match(Integer.MIN_VALUE), -1);
        // seven widows have the seven highest, the first the least of them
        x = Due.street("s100;s100;s100;s100;s100;s100;s100;");
        DUE.is("27: weight", x.match(-1), 2 * (4 + 4 + 3 + 3 + 2 + 2 + 1));
        int[] rails = {2, 4, 5, 6, 7, 8, 9};
        for (int s = 0; s < 7; s++) {
            DUE.is("27: of " + s, x.match(s), rails[s]);
        }
        DUE.is("27: only in mind", x.speaker(6, 2), 0);
        // children and priests are in nobody's way, though they come first
        x = Due.street("s508;s708;s108;");
        DUE.is("27: weight", x.match(-1), 9 + 3 + 8);
        DUE.is("27: a child", x.match(0), 0);
        DUE.is("27: a priest", x.match(1), 1);
        DUE.is("27: a widow", x.match(2), 8);
        x.builds(0, 7);
        DUE.is("27: the first rail", x.match(2), 0);
        DUE.is("27: a child", x.match(0), 1);
        DUE.is("27: weight", x.match(-1), 9 + 3 + 14);
    }

    private static void promise28() {
        BalconiesParliament x = new BalconiesParliament();
        DUE.is("28: nobody", x.lines(0), 0);
        DUE.is("28: nobody", x.lines(1), -4);
        // on 0 (height 0), 1 (0), 3 (1), 5 (2), 2 (1)
        x = Due.street("s000;s001;s003;s005;s002;");
        DUE.is("28: 0-1, 0-3, 2-1, 2-3, 2-5", x.lines(0), 5);
        x.shuts(3);
        DUE.is("28: heard or not", x.lines(0), 5);
        DUE.is("28: the highest", x.lines(1), 3);
        x.shuts(5);
        DUE.is("28: of those heard", x.lines(1), 4);
        x.goes(0, 9);
        x.goes(1, 9);
        DUE.is("28: of several the least", x.lines(1), 0);
        x.shuts(9);
        x.shuts(2);
        DUE.is("28: none is heard", x.lines(1), -4);
        DUE.is("28: lines(2)", x.lines(2), -1);
        DUE.is("28: lines(-1)", x.lines(-1), -1);
        x = Due.street("s100;");
        DUE.is("28: who weighs 0", x.lines(1), 0);
    }
}
