/** "THE TEXT of a QUARTER": each byte and each number of it, at its bounds and beside them. */
public final class TextEdgesTest {
    private static final Due DUE = new Due();
    private static final String[] STATEMENTS = {"b00;", "s000;", "f00;", "a00;", "o0;", "q01;", "d01;"};

    public static void main(String[] args) {
        oneAtLeast();
        eachByteOfAStatement();
        ifSomethingLacks();
        justAsManyDigits();
        signsOfHigherNumbers();
        heights();
        kindsFiguresBalconies();
        noRoom();
        moods();
        noSuchOne();
        shutters();
        quotas();
        days();
        dayAbove999();
        eachOnWhatIsAhead();
        theFirstIsTold();
        kind1AheadOfKind2();
        withOneNothing();
        hundredBytes();
        theRowStays();
        DUE.end("TextEdgesTest");
    }

    private static void text(BalconiesParliament x, String text, int due) {
        DUE.is("\"" + text + "\"", Due.read(x, text), due);
    }

    private static void fault(BalconiesParliament x, String text, int due) {
        String before = State.ofStreet(x);
        text(x, text, due);
        DUE.so("\"" + text + "\" changes nothing", State.ofStreet(x).equals(before));
    }

    private static BalconiesParliament street() {
        return Due.street("s000;");
    }

    /** "STATEMENTS, each with ";" behind, one at least". */
    private static void oneAtLeast() {
        fault(street(), "", -1000);
        for (String statement : STATEMENTS) {
            text(street(), statement, 1);
            text(street(), statement + statement, 2);
        }
        fault(street(), ";", -1000);
        fault(street(), "o0;;", -1003);
    }

    /** "the place of the first byte with which no QUARTER can go on": each of 256, at each place. */
    private static void eachByteOfAStatement() {
        for (int sign = 0; sign < 256; sign++) {
            boolean letter = "bsfaoqd".indexOf(sign) >= 0;
            BalconiesParliament x = street();
            if (letter) {
                fault(x, "" + (char) sign, -1001);
                fault(x, "o0;" + (char) sign, -1004);
            } else {
                fault(x, "" + (char) sign, -1000);
                fault(x, (char) sign + "00;", -1000);
                fault(x, "o0;" + (char) sign + "00;", -1003);
            }
            for (String statement : STATEMENTS) {
                eachPlaceOf(x, statement, (char) sign);
            }
        }
    }

    private static void eachPlaceOf(BalconiesParliament x, String statement, char sign) {
        int end = statement.length() - 1;
        for (int place = 1; place <= end; place++) {
            boolean fits = place == end ? sign == ';' : sign >= '0' && sign <= '9';
            if (!fits) {
                String spoilt = statement.substring(0, place) + sign + statement.substring(place + 1);
                fault(x, spoilt, -1000 - place);
                fault(x, "q01;" + spoilt, -1004 - place);
            }
        }
    }

    /** "the end, if something lacks". */
    private static void ifSomethingLacks() {
        for (String statement : STATEMENTS) {
            for (int n = 1; n < statement.length(); n++) {
                fault(street(), statement.substring(0, n), -1000 - n);
                fault(street(), statement + statement.substring(0, n), -1000 - statement.length() - n);
            }
        }
    }

    /** "numbers in THE TEXT have just as many digits as told": one fewer, one more. */
    private static void justAsManyDigits() {
        for (String statement : STATEMENTS) {
            int end = statement.length() - 1;
            fault(street(), statement.substring(0, end - 1) + ";", -1000 - end + 1);
            fault(street(), statement.substring(0, end) + "0;", -1000 - end);
        }
        fault(street(), "q1;", -1002);
        fault(street(), "q001;", -1003);
        fault(street(), "d1;", -1002);
        fault(street(), "d001;", -1003);
        fault(street(), "f0-1;", -1002);
        fault(street(), "q 1;", -1001);
    }

    /** A row of bytes keeps the lowest bits of what is put in: letters come round again at 256. */
    private static void signsOfHigherNumbers() {
        BalconiesParliament x = new BalconiesParliament();
        Due.tell(x, 0, 0, 'q' + 256, '4' - 256, '2' + 65536, ';' + 512);
        DUE.is("q42; of higher numbers", x.quarter(0), 1);
        DUE.is("quota", x.count(2), 42);
        Due.tell(x, 0, 0, 'q' + 128, '4', '2', ';');
        DUE.is("a byte below 0", x.quarter(0), -1000);
        Due.tell(x, 0, 0, 'q', '4' + 128, '2', ';');
        DUE.is("a byte below 0", x.quarter(0), -1001);
        Due.tell(x, 0, 0, 'q', '4', '2', ';' - 128);
        DUE.is("a byte below 0", x.quarter(0), -1003);
    }

    /** ""b" a BALCONY, HEIGHT (a digit each)": 0 .. 9, 0 .. 7. */
    private static void heights() {
        for (int b = 0; b <= 9; b++) {
            for (int h = 0; h <= 9; h++) {
                BalconiesParliament x = new BalconiesParliament();
                String told = "b" + b + h + ";";
                if (h <= 7) {
                    text(x, told, 1);
                    DUE.is(told, x.balcony(b, 0), h);
                } else {
                    fault(x, told, -2000);
                    fault(x, "b01;" + told, -2004);
                }
            }
        }
    }

    /** ""s" KIND, FIGURE, a BALCONY (a digit each): one more": kinds 0 .. 7. */
    private static void kindsFiguresBalconies() {
        for (int i = 0; i <= 9; i++) {
            BalconiesParliament x = new BalconiesParliament();
            if (i <= 7) {
                text(x, "s" + i + "00;", 1);
                DUE.is("kind", x.speaker(0, 0), i);
            } else {
                fault(x, "s" + i + "00;", -2000);
                fault(x, "s" + i + "99;", -2000);
            }
            text(x, "s0" + i + "0;s00" + i + ";", 2);
            DUE.is("figure", x.speaker(x.count(0) - 2, 1), i);
            DUE.is("balcony", x.speaker(x.count(0) - 1, 2), i);
            DUE.is("mood", x.speaker(x.count(0) - 1, 3), 9);
        }
    }

    /** "no room": seven, and one more, in one text and by several. */
    private static void noRoom() {
        StringBuilder told = new StringBuilder();
        for (int n = 1; n <= 9; n++) {
            told.append("s000;");
            BalconiesParliament x = new BalconiesParliament();
            if (n <= 7) {
                text(x, told.toString(), n);
                DUE.is("speakers", x.count(0), n);
            } else {
                fault(x, told.toString(), -2035);
            }
        }
        for (int there = 1; there <= 7; there++) {
            BalconiesParliament x = Due.street(told.substring(0, 5 * there));
            fault(x, told.substring(0, 5 * (8 - there)), -2000 - 5 * (7 - there));
            if (there < 7) {
                text(x, told.substring(0, 5 * (7 - there)), 7 - there);
            }
            DUE.is("seven", x.count(0), 7);
        }
    }

    /** ""f" one, MOOD: FOR; "a" likewise AGAINST (MOOD less than 0, or 0)". */
    private static void moods() {
        BalconiesParliament x = Due.street("s000;s000;s000;s000;s000;s000;s000;");
        for (int s = 0; s <= 6; s++) {
            for (int mood = 0; mood <= 9; mood++) {
                text(x, "f" + s + mood + ";", 1);
                DUE.is("for", x.thinks(s, 5), mood);
                text(x, "a" + s + mood + ";", 1);
                DUE.is("against", x.thinks(s, 5), -mood);
            }
            DUE.is("others stay", x.speaker((s + 1) % 7, 3), s == 6 ? 14 : 9);
        }
    }

    /** "no such one": with n speakers 0 .. n - 1 are there. */
    private static void noSuchOne() {
        StringBuilder people = new StringBuilder();
        for (int n = 0; n <= 7; n++) {
            for (int s = 0; s <= 9; s++) {
                for (char letter : new char[] {'f', 'a'}) {
                    BalconiesParliament x = n == 0 ? new BalconiesParliament() : Due.street(people.toString());
                    String told = letter + "" + s + "1;";
                    if (s < n) {
                        text(x, told, 1);
                    } else {
                        fault(x, told, -2000);
                        fault(x, "o0;" + told, -2003);
                    }
                }
            }
            people.append("s000;");
        }
    }

    /** ""o" a BALCONY (a digit): SHUT, or, told again, not". */
    private static void shutters() {
        for (int b = 0; b <= 9; b++) {
            BalconiesParliament x = new BalconiesParliament();
            String told = "o" + b + ";";
            StringBuilder again = new StringBuilder();
            for (int n = 1; n <= 33; n++) {
                again.append(told);
                text(x, again.toString(), n);
                int times = n * (n + 1) / 2;
                DUE.is("shut " + b, x.count(6), times % 2 << b);
            }
        }
    }

    /** ""q" QUOTA (2 digits)": 1 .. 99. */
    private static void quotas() {
        for (int q = 0; q <= 99; q++) {
            BalconiesParliament x = new BalconiesParliament();
            String told = "q" + q / 10 + q % 10 + ";";
            if (q > 0) {
                text(x, told, 1);
                DUE.is(told, x.count(2), q);
            } else {
                fault(x, told, -2000);
                fault(x, "q99;" + told, -2004);
            }
        }
    }

    /** ""d" DAYS (2 digits, 1 .. 60)". */
    private static void days() {
        for (int n = 0; n <= 99; n++) {
            BalconiesParliament x = Due.street("s000;s191;f19;a09;");
            String told = "d" + n / 10 + n % 10 + ";";
            if (n >= 1 && n <= 60) {
                int mood = x.moodThen(0, n);
                text(x, told, 1);
                DUE.is(told, x.count(1), n);
                DUE.is("days are lived", x.speaker(0, 3), mood + 9);
                DUE.is("mood", mood, Math.min(9, n - 9));
            } else {
                fault(x, told, -2000);
                fault(x, "d01;" + told, -2004);
            }
        }
    }

    /** "DAY above 999": also of several statements together. */
    private static void dayAbove999() {
        BalconiesParliament x = new BalconiesParliament();
        for (int i = 0; i < 4; i++) {
            text(x, "d60;d60;d60;d60;", 4);
        }
        DUE.is("day", x.count(1), 960);
        fault(x, "d40;", -2000);
        fault(x, "d60;", -2000);
        fault(x, "d20;d20;", -2004);
        fault(x, "d39;d01;", -2004);
        fault(x, "d13;d13;d13;d01;", -2012);
        text(x, "d38;", 1);
        fault(x, "d02;", -2000);
        fault(x, "d01;d01;", -2004);
        text(x, "d01;", 1);
        DUE.is("day", x.count(1), 999);
        fault(x, "d01;", -2000);
        text(x, "q98;", 1);
        DUE.is("other statements", x.count(2), 98);
    }

    /** "STATEMENTS are tried one behind the other, each on what those ahead of it made". */
    private static void eachOnWhatIsAhead() {
        fault(new BalconiesParliament(), "f01;s000;", -2000);
        text(new BalconiesParliament(), "s000;f01;", 2);
        fault(new BalconiesParliament(), "s000;f11;s000;", -2005);
        text(new BalconiesParliament(), "s000;s000;f11;", 3);
        // a day behind a shutter, a height, a mood differs from one ahead of them
        BalconiesParliament x = Due.street("s000;s101;");
        text(x, "d01;f19;d02;o1;d04;o1;b12;d08;b11;d01;", 10);
        DUE.is("days on which he sees her", x.speaker(0, 3), 9 + 3);
        DUE.is("all days", x.count(1), 16);
        text(x, "f09;a09;f02;q02;q03;", 5);
        DUE.is("the last one stays", x.speaker(0, 3), 11);
        DUE.is("the last one stays", x.count(2), 3);
    }

    /** "the first that can't be done so is told (kind 2)", by the place of its letter. */
    private static void theFirstIsTold() {
        String[] unfit = {"b08;", "b99;", "s800;", "f01;", "a99;", "q00;", "d00;", "d61;", "d99;"};
        for (String one : unfit) {
            fault(new BalconiesParliament(), one, -2000);
            fault(new BalconiesParliament(), "o9;" + one, -2003);
            fault(new BalconiesParliament(), "b77;o9;q50;" + one, -2011);
            for (String other : unfit) {
                fault(new BalconiesParliament(), "q50;" + one + other, -2004);
            }
        }
    }

    /** "kind 1 ...; else kind 2": what can't be read is told, though something ahead can't be done. */
    private static void kind1AheadOfKind2() {
        String[] unfit = {"b08;", "s900;", "f01;", "a01;", "q00;", "d00;", "d61;"};
        for (String one : unfit) {
            int end = one.length();
            fault(new BalconiesParliament(), one + "x", -1000 - end);
            fault(new BalconiesParliament(), one + "b", -1001 - end);
            fault(new BalconiesParliament(), one.substring(0, end - 1), -999 - end);
            fault(new BalconiesParliament(), one + "o0;o;", -1004 - end);
        }
    }

    /** "Without FAULT all of it comes, with one nothing": neither what is ahead of it nor behind. */
    private static void withOneNothing() {
        String all = "s698;b03;o2;q33;f07;a15;d02;";
        String[] faults = {"x", "b08;", "s800;", "f91;", "a81;", "q00;", "d61;", "d00;", "o", "o0"};
        for (String fault : faults) {
            BalconiesParliament x = Due.street("s091;f05;o7;d03;");
            String before = State.ofStreet(x);
            DUE.so(fault + " behind", Due.read(x, all + fault) <= -1000);
            DUE.so(fault + " behind: nothing", State.ofStreet(x).equals(before));
            DUE.so(fault + " ahead", Due.read(x, fault + all) <= -1000);
            DUE.so(fault + " ahead: nothing", State.ofStreet(x).equals(before));
            text(x, all, 7);
            int[] counts = {2, 5, 33, 3, 1, 2, 1 << 7 | 1 << 2};
            for (int what = 0; what < 7; what++) {
                DUE.is("all of it: count(" + what + ")", x.count(what), counts[what]);
            }
        }
    }

    /** A row of 100 bytes, full of statements, or with a fault at its very end. */
    private static void hundredBytes() {
        String ninetySix = "b00;b01;b02;b03;".repeat(6);
        text(new BalconiesParliament(), ninetySix + "b97;", 25);
        fault(new BalconiesParliament(), ninetySix + "b98;", -2096);
        fault(new BalconiesParliament(), ninetySix + "b97x", -1099);
        fault(new BalconiesParliament(), ninetySix + "b9;;", -1098);
        fault(new BalconiesParliament(), ninetySix + "s000", -1100);
        fault(new BalconiesParliament(), ninetySix + "o0;o", -1100);
        fault(new BalconiesParliament(), ninetySix + "o0;;", -1099);
        BalconiesParliament x = new BalconiesParliament();
        x.row(0, 0, 100);
        DUE.is("100 bytes of 0", x.quarter(0), -1000);
        x.row(0, 0, 0);
        DUE.is("0 bytes", x.quarter(0), -1000);
        text(new BalconiesParliament(), "o5;".repeat(33), 33);
        fault(new BalconiesParliament(), "o5;".repeat(33) + "o", -1100);
    }

    /** "The ROW of a text ... stay there", with a fault and without. */
    private static void theRowStays() {
        for (String told : new String[] {"s000;f01;d01;", "s000;f11;", "s000;f1", ""}) {
            BalconiesParliament x = new BalconiesParliament();
            Due.read(x, told);
            for (int i = 0; i < told.length(); i++) {
                DUE.is(told + " at " + i, Due.element(x, 7, i), told.charAt(i));
            }
            DUE.is(told + " at its end", Due.element(x, 7, told.length()), Oracle.ILLEGAL_STATE);
        }
        // it may be told once more
        BalconiesParliament x = Due.street("s000;d02;");
        DUE.is("once more", x.quarter(7), 2);
        DUE.is("two came", x.count(0), 2);
        DUE.is("four days", x.count(1), 4);
    }
}
