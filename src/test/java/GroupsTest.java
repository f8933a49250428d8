/** Promises 17 to 24: groups, powers, who is to be won, where a guest had best go. */
public final class GroupsTest {
    private static final Due DUE = new Due();
    /** Weights 5 (side 0), 5 (side 1), 3 (side 0), 1 (side 1, not heard); quota 8. */
    private static final String STREET = "q08;s008;s009;s004;s001;o1;";

    public static void main(String[] args) {
        promise17();
        promise18();
        promise19();
        promise20();
        promise21();
        promise22();
        promise23();
        promise24();
        DUE.end("GroupsTest");
    }

    private static void promise17() {
        BalconiesParliament x = Due.street(STREET + "a19;");
        int[] could = {0, 0, 0, 1, 0, 0, 1, 1};
        for (int group = 0; group < 8; group++) {
            DUE.is("17: could(" + group + ")", x.could(group), could[group]);
            DUE.is("17: one not heard counts nothing", x.could(group + 8), could[group]);
        }
        DUE.is("17: could(16)", x.could(16), -1);
        DUE.is("17: could(-1)", x.could(-1), -1);
        DUE.is("17: could(MIN)", x.could(Integer.MIN_VALUE), -1);
        // who vetoes now wouldn't, were just these for it
        x = Due.street("s008;s009;s600;a29;");
        DUE.is("17: no veto", x.could(3), 1);
    }

    private static void promise18() {
        BalconiesParliament x = Due.street(STREET);
        // 1 turns it wherever he isn't first (4 of 6), the others only behind 1 and ahead of one another
        long[][] powers = {{1, 6}, {2, 3}, {1, 6}, {0, 1}};
        for (int s = 0; s < 4; s++) {
            DUE.is("18: above, of " + s, x.power(s, 0), powers[s][0]);
            DUE.is("18: below, of " + s, x.power(s, 1), powers[s][1]);
        }
        DUE.is("18: power(4, 0)", x.power(4, 0), 1000000001);
        DUE.is("18: power(-1, 0)", x.power(-1, 0), 1000000001);
        DUE.is("18: power(0, 2)", x.power(0, 2), 1000000001);
        DUE.is("18: power(0, -1)", x.power(0, -1), 1000000001);
        x = Due.street("q99;s008;s009;");
        DUE.is("18: nobody turns it", x.power(0, 0), 0);
        DUE.is("18: nobody turns it", x.power(0, 1), 1);
    }

    private static void promise19() {
        BalconiesParliament x = Due.street(STREET);
        DUE.is("19: smallest", x.groups(0), 3);
        DUE.is("19: least ones", x.groups(1), 2);
        DUE.is("19: blocks", x.groups(2), 2);
        DUE.is("19: groups(3)", x.groups(3), -1);
        DUE.is("19: groups(-1)", x.groups(-1), -1);
        x.quota(13);
        DUE.is("19: smallest", x.groups(0), 7);
        DUE.is("19: least ones", x.groups(1), 1);
        DUE.is("19: blocks", x.groups(2), 7);
        x.quota(14);
        DUE.is("19: none", x.groups(0), -4);
        DUE.is("19: none", x.groups(1), 0);
        // without each of those heard the others could not: all of them, as the words say
        DUE.is("19: blocks where nobody could", x.groups(2), 7);
        // two of 10 are fewer than three, though their number is greater
        x = Due.street("q18;s008;s009;s008;s508;s509;");
        DUE.is("19: fewest ahead of least", x.groups(0), 24);
        // one who weighs nothing is in no least group
        x = Due.street("q05;s008;s199;b90;s109;s009;");
        DUE.is("19: smallest", x.groups(0), 3);
        DUE.is("19: least ones", x.groups(1), 3);
        // the same with him as number 0
        x = Due.street("q05;b90;s109;s008;s009;");
        DUE.is("19: least ones", x.groups(1), 2);
        x = Due.street("q06;b90;b80;b10;s108;s007;s006;");
        DUE.is("19: least ones without number 0", x.groups(1), 1);
    }

    private static void promise20() {
        BalconiesParliament x = Due.street(STREET);
        int[] swings = {1, 3, 1, 0};
        for (int s = 0; s < 4; s++) {
            DUE.is("20: swings(" + s + ")", x.swings(s), swings[s]);
        }
        DUE.is("20: swings(4)", x.swings(4), -1);
        DUE.is("20: swings(-1)", x.swings(-1), -1);
    }

    private static void promise21() {
        BalconiesParliament x = Due.street(STREET);
        DUE.is("21: win two", x.win(0), 3);
        DUE.is("21: it doesn't carry now", x.win(1), 0);
        x.thinks(1, 1);
        DUE.is("21: win one", x.win(0), 1);
        x.thinks(0, 1);
        x.thinks(2, 1);
        DUE.is("21: nobody is to be won", x.win(0), 0);
        DUE.is("21: who stops it", x.win(1), 2);
        x.thinks(0, 0);
        x.thinks(2, 0);
        x.thinks(1, 1);
        x.shuts(8);
        DUE.is("21: of those heard", x.win(0), 4);
        x.shuts(4);
        DUE.is("21: none", x.win(0), -4);
        DUE.is("21: win(2)", x.win(2), -1);
        DUE.is("21: win(-1)", x.win(-1), -1);
        DUE.is("21: only in mind", x.count(4), 2);
        // an owner against is to be won; won over to -9 he stops it
        x = Due.street("s008;s009;f01;f11;s600;a21;");
        DUE.is("21: the one who vetoes", x.win(0), 4);
        x = Due.street("q05;s008;s009;s008;s009;f01;f11;f21;f31;s600;");
        DUE.is("21: an owner's veto", x.win(1), 16);
        x = Due.street("q05;s008;s009;s008;s009;f01;f11;f21;f31;s000;");
        DUE.is("21: a side", x.win(1), 5);
        x = Due.street("q13;s008;s009;s004;");
        DUE.is("21: all of them", x.win(0), 7);
    }

    private static void promise22() {
        // from 8 (side 0) the speaker weighs 5; what the widow on 9 lacks is side 0 and 3
        BalconiesParliament x = Due.street("q11;s001;s199;f09;f19;");
        DUE.is("22: where", x.guest(0, 5, 0), 4);
        DUE.is("22: how many", x.guest(0, 5, 1), 5);
        x.quota(13);
        DUE.is("22: where", x.guest(0, 5, 0), 8);
        x.shuts(8);
        DUE.is("22: nowhere", x.guest(0, 5, 0), 0);
        DUE.is("22: how many", x.guest(0, 5, 1), 0);
        DUE.is("22: no days", x.guest(0, 0, 1), 0);
        DUE.is("22: guest(0, 60, 1)", x.guest(0, 60, 1), 0);
        DUE.is("22: guest(2, 1, 0)", x.guest(2, 1, 0), -1);
        DUE.is("22: guest(-1, 1, 0)", x.guest(-1, 1, 0), -1);
        DUE.is("22: guest(0, 61, 0)", x.guest(0, 61, 0), -1);
        DUE.is("22: guest(0, -1, 0)", x.guest(0, -1, 0), -1);
        DUE.is("22: guest(0, 1, 2)", x.guest(0, 1, 2), -1);
        DUE.is("22: guest(0, 1, -1)", x.guest(0, 1, -1), -1);
        DUE.is("22: only in mind", x.speaker(0, 2), 1);
        // of mood -2 he is for it only where he sees the widow, from the third day on
        x = Due.street("q11;s001;s199;a02;f19;");
        DUE.is("22: where she is seen", x.guest(0, 5, 0), 6);
        DUE.is("22: on days 3 to 5", x.guest(0, 5, 1), 3);
    }

    private static void promise23() {
        BalconiesParliament x = Due.street("q10;s008;s009;f01;f11;");
        DUE.is("23: none is better", x.shutter(5), -4);
        x.shuts(9);
        DUE.is("23: not any more", x.shutter(5), 9);
        DUE.is("23: in no days", x.shutter(0), -4);
        x.shuts(9);
        x.keep(0, 1, 6, 0);
        x.comes(0, 3);
        x.thinks(2, -1);
        DUE.is("23: the owner's", x.shutter(5), 3);
        x.goes(2, 0);
        DUE.is("23: the owner's", x.shutter(60), 0);
        DUE.is("23: shutter(61)", x.shutter(61), -1);
        DUE.is("23: shutter(-1)", x.shutter(-1), -1);
        DUE.is("23: only in mind", x.count(6), 0);
        x = Due.street("q05;s008;s009;s007;f01;f11;f21;o9;o7;");
        DUE.is("23: of several the least", x.shutter(5), 7);
        // the speaker behind 3 is for it from the third day on, the widow behind 9 all the time
        x = Due.street("q06;s008;s102;s003;s109;f09;f19;a22;f39;o3;");
        x.shuts(9);
        DUE.is("23: the one for most days", x.shutter(5), 9);
        x.goes(3, 8);
        DUE.is("23: the one for some days", x.shutter(5), 3);
        DUE.is("23: not for 2 days", x.shutter(2), -4);
    }

    private static void promise24() {
        BalconiesParliament x = Due.street("s008;s009;f01;");
        DUE.is("24: it doesn't cross", x.quotaMost(), -4);
        x.thinks(1, 1);
        DUE.is("24: all they weigh", x.quotaMost(), 10);
        x.quota(50);
        DUE.is("24: whatever the quota", x.quotaMost(), 10);
        DUE.is("24: it stays", x.count(2), 50);
        x = Due.street("s100;s101;f01;f11;");
        DUE.is("24: they weigh nothing", x.quotaMost(), -4);
        x = Due.street("s000;s101;f01;f11;");
        DUE.is("24: they weigh 1", x.quotaMost(), 1);
        x = Due.street("b07;b17;s690;s690;s690;s691;s691;s691;f01;f11;f21;f31;f41;");
        DUE.is("24: 99 at most", x.quotaMost(), 99);
        x.thinks(5, -1);
        DUE.is("24: a veto", x.quotaMost(), -4);
    }
}
