/** "Terms", III.: shelves, rows, the image, and calls without end (512). */
public final class ShelfEdgesTest {
    private static final Due DUE = new Due();
    private static final String[] OF_ROWS = {"quarter", "law", "whatIs", "forged", "judge", "put"};
    private static final String[] OF_KINDS = {"comes", "cost", "toss"};

    public static void main(String[] args) {
        nothingAtFirst();
        nothingHeld();
        kindWhereRowIsWanted();
        rowWhereKindIsWanted();
        oneInPlaceOfAnother();
        refusedKeepsWhatWas();
        sizes();
        zeroAtFirst();
        lowestBits();
        placesOfPut();
        elementThrows();
        copySizes();
        copyPlaces();
        copySorts();
        copyOntoItself();
        takenStays();
        costs();
        failures();
        imageOfNothing();
        imageOfAll();
        imageWithoutShelves();
        imageStays();
        fiveHundredAndTwelveCalls();
        DUE.end("ShelfEdgesTest");
    }

    /** A call on shelf d that is fine, if the shelf holds what is wanted and somebody is there. */
    private static long on(BalconiesParliament x, String call, int d) {
        return switch (call) {
            case "law", "comes" -> Calls.ask(x, call, d, 0);
            case "whatIs", "put" -> Calls.ask(x, call, d, 0, 0);
            default -> Calls.ask(x, call, d);
        };
    }

    private static void all(BalconiesParliament x, String[] calls, int d, long due) {
        for (String call : calls) {
            DUE.is(call + " on shelf " + d, on(x, call, d), due);
        }
    }

    private static BalconiesParliament street() {
        BalconiesParliament x = new BalconiesParliament();
        x.keep(0, 1, 0, 0);
        x.comes(0, 0);
        x.keep(0, 0, 0, 0);
        return x;
    }

    /** "SHELVES 0 .. 7 each hold nothing (at first)". */
    private static void nothingAtFirst() {
        BalconiesParliament x = new BalconiesParliament();
        for (int d = 0; d <= 7; d++) {
            for (String call : new String[] {"comes", "law", "forged", "judge", "cost", "toss", "quarter", "put"}) {
                DUE.is(call + " on shelf " + d, on(x, call, d), -11);
            }
            DUE.is("element", Due.element(x, d, 0), Oracle.ILLEGAL_STATE);
            for (int e = 0; e <= 7; e++) {
                DUE.is("copy", x.copy(d, 0, e, 0, 0), -11);
            }
        }
    }

    /** "-11 nothing is held where something is wanted", of a shelf emptied again, too. */
    private static void nothingHeld() {
        for (int d = 0; d <= 7; d++) {
            BalconiesParliament x = street();
            all(x, OF_ROWS, d, -11);
            all(x, OF_KINDS, d, -11);
            x.row(d, 0, 100);
            DUE.is("keep nothing", x.keep(d, 0, 0, 0), 0);
            all(x, OF_ROWS, d, -11);
            all(x, OF_KINDS, d, -11);
            DUE.is("keep a kind", x.keep(d, 1, 7, 9), 0);
            x.keep(d, 0, 7, 9);
            all(x, OF_ROWS, d, -11);
            all(x, OF_KINDS, d, -11);
            DUE.is("keep nothing once more", x.keep(d, 0, -5, 500), 0);
            DUE.is("element", Due.element(x, d, 0), Oracle.ILLEGAL_STATE);
            DUE.is("nobody came", x.count(0), 1);
        }
    }

    /** "-12 it is of another kind": a kind, where a row is wanted; even if a row was there. */
    private static void kindWhereRowIsWanted() {
        for (int d = 0; d <= 7; d++) {
            BalconiesParliament x = street();
            x.keep(d, 1, d, 9 - d);
            all(x, OF_ROWS, d, -12);
            x.row(d, 0, 10);
            x.keep(d, 1, d, 9 - d);
            all(x, OF_ROWS, d, -12);
            DUE.is("element", Due.element(x, d, 0), Oracle.ILLEGAL_STATE);
            x.row((d + 1) % 8, 0, 10);
            DUE.is("copy from", x.copy(d, 0, (d + 1) % 8, 0, 1), -12);
            DUE.is("copy to", x.copy((d + 1) % 8, 0, d, 0, 1), -12);
            DUE.is("copy to itself", x.copy(d, 0, d, 0, 1), -12);
        }
    }

    /** "-12 (a ROW)": of any sort and size, even if a kind was there. */
    private static void rowWhereKindIsWanted() {
        for (int d = 0; d <= 7; d++) {
            for (int sort = 0; sort <= 2; sort++) {
                BalconiesParliament x = street();
                x.row(d, sort, 0);
                all(x, OF_KINDS, d, -12);
                x.keep(d, 1, 0, 5);
                x.row(d, sort, 100);
                all(x, OF_KINDS, d, -12);
                DUE.is("nobody came", x.count(0), 1);
                DUE.is("a text of " + sort, x.quarter(d), sort == 0 ? -1000 : -12);
            }
        }
    }

    /** A shelf holds one thing: the last that it got. */
    private static void oneInPlaceOfAnother() {
        BalconiesParliament x = street();
        for (int d = 0; d <= 7; d++) {
            x.row(d, 0, 3);
            DUE.is("a row", x.put(d, 2, 1), 0);
            DUE.is("keep a kind", x.keep(d, 1, 7, 3), 0);
            DUE.is("a kind", x.cost(d), 9);
            x.keep(d, 1, 0, 3);
            DUE.is("another kind", x.cost(d), 2);
            x.row(d, 2, 2);
            DUE.is("a row", x.put(d, 1, 70000), 0);
            DUE.is("another row", x.row(d, 0, 1), 0);
            DUE.is("of one place", x.put(d, 1, 1), -13);
            DUE.is("of 0", Due.element(x, d, 0), 0);
            for (int e = d + 1; e <= 7; e++) {
                DUE.is("others hold nothing", x.cost(e), -11);
            }
        }
    }

    /** What is refused leaves the shelf as it was. */
    private static void refusedKeepsWhatWas() {
        for (int held = 0; held <= 2; held++) {
            BalconiesParliament x = street();
            if (held == 1) {
                x.keep(3, 1, 6, 7);
            } else if (held == 2) {
                Due.tell(x, 3, 1, 5, 6, 7);
            }
            String before = State.of(x);
            DUE.is("row of 101", x.row(3, 0, 101), -1);
            DUE.is("row of -1", x.row(3, 0, -1), -14);
            DUE.is("row of sort 3", x.row(3, 3, 1), -1);
            DUE.is("row of sort -1", x.row(3, -1, 1), -1);
            DUE.is("keep 2", x.keep(3, 2, 0, 0), -1);
            DUE.is("keep -1", x.keep(3, -1, 0, 0), -1);
            DUE.is("kind 8", x.keep(3, 1, 8, 0), -1);
            DUE.is("kind -1", x.keep(3, 1, -1, 0), -1);
            DUE.is("figure 10", x.keep(3, 1, 0, 10), -1);
            DUE.is("figure -1", x.keep(3, 1, 0, -1), -1);
            DUE.so("it is as it was", State.of(x).equals(before));
        }
    }

    /** "0 .. 100 elements": each size has its last place, and none behind it. */
    private static void sizes() {
        for (int sort = 0; sort <= 2; sort++) {
            for (int n = 0; n <= 100; n++) {
                BalconiesParliament x = new BalconiesParliament();
                DUE.is("row of " + n, x.row(5, sort, n), 0);
                DUE.is("behind the last of " + n, x.put(5, n, 1), -13);
                DUE.is("behind the last of " + n, Due.element(x, 5, n), Oracle.ILLEGAL_STATE);
                DUE.is("ahead of the first", x.put(5, -1, 1), -13);
                DUE.is("ahead of the first", Due.element(x, 5, -1), Oracle.ILLEGAL_STATE);
                if (n > 0) {
                    DUE.is("the last of " + n, x.put(5, n - 1, 9), 0);
                    DUE.is("the last of " + n, Due.element(x, 5, n - 1), 9);
                    DUE.is("the first of " + n, x.put(5, 0, 8), 0);
                    DUE.is("the first of " + n, Due.element(x, 5, 0), 8);
                }
            }
        }
    }

    /** "0 at first": also where elements have been. */
    private static void zeroAtFirst() {
        BalconiesParliament x = new BalconiesParliament();
        x.row(0, 2, 100);
        for (int i = 0; i < 100; i++) {
            x.put(0, i, i + 1);
        }
        x.row(0, 2, 0);
        x.row(0, 2, 100);
        for (int i = 0; i < 100; i++) {
            DUE.is("element " + i, Due.element(x, 0, i), 0);
        }
    }

    private static void kept(int sort, int put, long due) {
        BalconiesParliament x = new BalconiesParliament();
        x.row(0, sort, 1);
        DUE.is("put " + put, x.put(0, 0, put), 0);
        DUE.is("put " + put + " in sort " + sort, Due.element(x, 0, 0), due);
    }

    /** "what is put in keeps its lowest bits". */
    private static void lowestBits() {
        int[] puts = {127, 128, 129, 255, 256, 257, -127, -128, -129, -256, 65535, 65536, 1 << 30};
        int[] bytes = {127, -128, -127, -1, 0, 1, -127, -128, 127, 0, -1, 0, 0};
        for (int i = 0; i < puts.length; i++) {
            kept(0, puts[i], bytes[i]);
        }
        kept(0, Integer.MAX_VALUE, -1);
        kept(0, Integer.MIN_VALUE, 0);
        int[] morePuts = {32767, 32768, 32769, 65535, 65536, 65537, -32767, -32768, -32769, -65536};
        int[] shorts = {32767, -32768, -32767, -1, 0, 1, -32767, -32768, 32767, 0};
        for (int i = 0; i < morePuts.length; i++) {
            kept(1, morePuts[i], shorts[i]);
            kept(2, morePuts[i], morePuts[i]);
        }
        kept(1, Integer.MAX_VALUE, -1);
        kept(1, Integer.MIN_VALUE, 0);
        kept(1, 128, 128);
        kept(1, -129, -129);
        kept(2, Integer.MAX_VALUE, Integer.MAX_VALUE);
        kept(2, Integer.MIN_VALUE, Integer.MIN_VALUE);
    }

    /** put changes its own place alone. */
    private static void placesOfPut() {
        BalconiesParliament x = new BalconiesParliament();
        for (int sort = 0; sort <= 2; sort++) {
            x.row(sort, sort, 3);
        }
        for (int i = 0; i < 3; i++) {
            x.put(1, i, 10 + i);
            for (int k = 0; k < 3; k++) {
                DUE.is("place " + k, Due.element(x, 1, k), k <= i ? 10 + k : 0);
                DUE.is("other shelves", Due.element(x, 0, k), 0);
                DUE.is("other shelves", Due.element(x, 2, k), 0);
            }
        }
    }

    /** "IllegalArgumentException: no such SHELF; IllegalStateException: no ROW, no such place". */
    private static void elementThrows() {
        BalconiesParliament x = new BalconiesParliament();
        int[] none = {-1, 8, Integer.MIN_VALUE, Integer.MAX_VALUE};
        for (int d : none) {
            DUE.is("no such shelf", Due.element(x, d, 0), Oracle.ILLEGAL_ARGUMENT);
        }
        for (int d = 0; d <= 7; d++) {
            DUE.is("nothing", Due.element(x, d, 0), Oracle.ILLEGAL_STATE);
            x.keep(d, 1, 0, 0);
            DUE.is("no row", Due.element(x, d, 0), Oracle.ILLEGAL_STATE);
            x.row(d, 0, 0);
            DUE.is("no place at all", Due.element(x, d, 0), Oracle.ILLEGAL_STATE);
            x.row(d, 0, 1);
            DUE.is("a place", Due.element(x, d, 0), 0);
            for (int i : none) {
                DUE.is("no such place", Due.element(x, d, i), Oracle.ILLEGAL_STATE);
            }
            DUE.is("no such place", Due.element(x, d, 1), Oracle.ILLEGAL_STATE);
        }
    }

    /** "n elements ... : n": 0, 1, 100 of 100, one more; "n below 0, too". */
    private static void copySizes() {
        for (int sort = 0; sort <= 2; sort++) {
            BalconiesParliament x = new BalconiesParliament();
            x.row(0, sort, 100);
            x.row(1, sort, 100);
            x.row(2, sort, 0);
            for (int i = 0; i < 100; i++) {
                x.put(0, i, i - 50);
            }
            DUE.is("101 of 100", x.copy(0, 0, 1, 0, 101), -13);
            DUE.is("-1 of 100", x.copy(0, 0, 1, 0, -1), -13);
            DUE.is("none came", Due.element(x, 1, 0), 0);
            DUE.is("0 of 100", x.copy(0, 0, 1, 0, 0), 0);
            DUE.is("none came", Due.element(x, 1, 0), 0);
            DUE.is("1 of 100", x.copy(0, 99, 1, 99, 1), 1);
            DUE.is("one came", Due.element(x, 1, 99), 49);
            DUE.is("no other", Due.element(x, 1, 98), 0);
            DUE.is("100 of 100", x.copy(0, 0, 1, 0, 100), 100);
            for (int i = 0; i < 100; i++) {
                DUE.is("element " + i, Due.element(x, 1, i), i - 50);
            }
            DUE.is("0 of 0", x.copy(2, 0, 1, 0, 0), 0);
            DUE.is("0 to 0", x.copy(1, 0, 2, 0, 0), 0);
            DUE.is("1 of 0", x.copy(2, 0, 1, 0, 1), -13);
            DUE.is("1 to 0", x.copy(1, 0, 2, 0, 1), -13);
        }
    }

    /** "-13": each i, j and n of rows of 4 and 3. */
    private static void copyPlaces() {
        for (int i = -1; i <= 5; i++) {
            for (int j = -1; j <= 4; j++) {
                for (int n = -1; n <= 5; n++) {
                    BalconiesParliament x = new BalconiesParliament();
                    Due.tell(x, 0, 0, 1, 2, 3, 4);
                    Due.tell(x, 1, 0, 7, 8, 9);
                    boolean there = i >= 0 && j >= 0 && n >= 0 && i + n <= 4 && j + n <= 3;
                    String call = "copy(0, " + i + ", 1, " + j + ", " + n + ")";
                    DUE.is(call, x.copy(0, i, 1, j, n), there ? n : -13);
                    for (int k = 0; k < 3; k++) {
                        boolean came = there && k >= j && k < j + n;
                        DUE.is(call + " at " + k, Due.element(x, 1, k), came ? 1 + i + k - j : 7 + k);
                    }
                }
            }
        }
        BalconiesParliament x = new BalconiesParliament();
        Due.tell(x, 0, 0, 1, 2, 3, 4);
        int[] far = {Integer.MIN_VALUE, Integer.MIN_VALUE + 3, Integer.MAX_VALUE - 3, Integer.MAX_VALUE};
        for (int a : far) {
            DUE.is("i far off", x.copy(0, a, 0, 0, 1), -13);
            DUE.is("j far off", x.copy(0, 0, 0, a, 1), -13);
            DUE.is("n far off", x.copy(0, 1, 0, 1, a), -13);
            for (int b : far) {
                DUE.is("sums that wrap around", x.copy(0, a, 0, 0, b), -13);
                DUE.is("sums that wrap around", x.copy(0, 0, 0, a, b), -13);
                DUE.is("sums that wrap around", x.copy(0, a, 0, a, b), -13);
            }
        }
    }

    /** "-12 (no ROWS of one SORT)". */
    private static void copySorts() {
        for (int sort = 0; sort <= 2; sort++) {
            for (int other = 0; other <= 2; other++) {
                BalconiesParliament x = new BalconiesParliament();
                Due.tell(x, 0, sort, 5);
                Due.tell(x, 1, other, 6);
                DUE.is("sort " + sort + " to " + other, x.copy(0, 0, 1, 0, 1), sort == other ? 1 : -12);
                DUE.is("what is there", Due.element(x, 1, 0), sort == other ? 5 : 6);
                DUE.is("0 of them", x.copy(0, 0, 1, 0, 0), sort == other ? 0 : -12);
            }
        }
    }

    /** From a shelf to itself: what comes is what was there. */
    private static void copyOntoItself() {
        for (int i = 0; i <= 3; i++) {
            for (int j = 0; j <= 3; j++) {
                int n = 5 - Math.max(i, j);
                BalconiesParliament x = new BalconiesParliament();
                Due.tell(x, 6, 2, 1, 2, 3, 4, 5);
                DUE.is("onto itself", x.copy(6, i, 6, j, n), n);
                for (int k = 0; k < 5; k++) {
                    DUE.is("at " + k, Due.element(x, 6, k), k >= j && k < j + n ? 1 + k - j + i : 1 + k);
                }
            }
        }
    }

    /** "what is taken from a SHELF, stay there". */
    private static void takenStays() {
        BalconiesParliament x = new BalconiesParliament();
        x.keep(2, 1, 6, 4);
        for (int s = 0; s < 7; s++) {
            DUE.is("comes", x.comes(2, s), s);
            DUE.is("cost", x.cost(2), 12);
            DUE.is("toss", x.toss(2), 212);
        }
        DUE.is("no room", x.comes(2, 0), -2);
        DUE.is("cost", x.cost(2), 12);
        x.keep(2, 0, 0, 0);
        DUE.is("he is there still", x.speaker(6, 0), 6);
        DUE.is("with his figure", x.speaker(6, 1), 4);
    }

    private static int[] every(int v) {
        return new int[] {v, v, v, v, v, v, v, v, v, v};
    }

    private static int[] from(int v, int step) {
        int[] all = new int[10];
        for (int i = 0; i < 10; i++) {
            all[i] = v + step * i;
        }
        return all;
    }

    /** COST of each kind with each figure. */
    private static void costs() {
        int[][] cost = {every(2), from(2, 1), every(0), every(1), every(0), every(1), from(4, 2), every(9)};
        for (int kind = 0; kind <= 7; kind++) {
            for (int figure = 0; figure <= 9; figure++) {
                BalconiesParliament x = new BalconiesParliament();
                x.keep(7, 1, kind, figure);
                DUE.is("cost of kind " + kind + ", " + figure, x.cost(7), cost[kind][figure]);
            }
        }
    }

    /** "-15: MUTES, CHILDREN, and any with FIGURE 0, have none": figures 0, 1 and 9 of each kind. */
    private static void failures() {
        int[] of1 = {1, 101, -15, 1, 1, -15, 206, 1};
        int[] of9 = {9, 109, -15, 9, 9, -15, 222, 9};
        for (int kind = 0; kind <= 7; kind++) {
            BalconiesParliament x = new BalconiesParliament();
            x.keep(7, 1, kind, 0);
            DUE.is("failure of 0 of kind " + kind, x.toss(7), -15);
            x.keep(7, 1, kind, 1);
            DUE.is("failure of 1 of kind " + kind, x.toss(7), of1[kind]);
            x.keep(7, 1, kind, 9);
            DUE.is("failure of 9 of kind " + kind, x.toss(7), of9[kind]);
            DUE.is("once more", x.toss(7), of9[kind]);
            DUE.so("he is there still", x.cost(7) >= 0);
        }
    }

    /** restore: "-3 there is none"; an image of an empty street is one. */
    private static void imageOfNothing() {
        BalconiesParliament x = street();
        String before = State.of(x);
        DUE.is("none", x.restore(), -3);
        DUE.so("nothing changes", State.of(x).equals(before));
        BalconiesParliament y = new BalconiesParliament();
        String first = State.of(y);
        DUE.is("day 0", y.image(), 0);
        Due.read(y, "s123;f05;o1;b17;q99;d01;");
        y.keep(7, 0, 0, 0);
        DUE.is("day 0", y.restore(), 0);
        DUE.so("as it was then", State.of(y).equals(first));
    }

    /** "THE IMAGE: all that there is": each thing that can change is as it was then. */
    private static void imageOfAll() {
        String[] changes = {
            "s777;", "f09;", "a19;", "o0;", "o5;", "q11;", "d01;", "b01;", "b95;", "s000;s000;s000;s000;"
        };
        for (String change : changes) {
            BalconiesParliament x = Due.street("s698;s199;s490;f03;a12;o5;q20;d31;");
            String before = State.ofStreet(x);
            DUE.is("image", x.image(), 31);
            Due.read(x, change);
            DUE.so(change + " changes", !State.ofStreet(x).equals(before));
            DUE.is("restore", x.restore(), 31);
            DUE.so(change + " is undone", State.ofStreet(x).equals(before));
        }
        BalconiesParliament x = Due.street("s698;s199;s490;f03;a12;o5;q20;d31;");
        for (int i = 0; i < 16; i++) {
            x.days(60);
        }
        x.days(8);
        DUE.is("the last day", x.image(), 999);
        DUE.is("restore", x.restore(), 999);
        DUE.is("no day more", x.days(1), -3);
    }

    /** "but SHELVES", "when THE IMAGE is RESTORED, SHELVES stay as they are". */
    private static void imageWithoutShelves() {
        BalconiesParliament x = street();
        x.keep(0, 1, 1, 1);
        Due.tell(x, 1, 1, 1, 2, 3);
        x.image();
        x.keep(0, 0, 0, 0);
        x.put(1, 2, 9);
        Due.tell(x, 2, 2, 70000);
        x.keep(3, 1, 7, 7);
        x.comes(3, 9);
        String after = State.of(x);
        x.restore();
        DUE.is("nothing", x.cost(0), -11);
        DUE.is("element", Due.element(x, 1, 2), 9);
        DUE.is("a row", Due.element(x, 2, 0), 70000);
        DUE.is("a kind", x.cost(3), 9);
        DUE.is("who came is gone", x.count(0), 1);
        x.comes(3, 9);
        DUE.so("shelves stay", State.of(x).equals(after));
    }

    /** "(and THE IMAGE)": it stays when it is restored, until a later one is taken. */
    private static void imageStays() {
        BalconiesParliament x = Due.street("s000;d05;");
        x.image();
        String first = State.ofStreet(x);
        for (int n = 1; n <= 5; n++) {
            Due.read(x, "s000;f05;o3;b22;q77;d60;");
            DUE.is("day", x.count(1), 65);
            DUE.is("restored", x.restore(), 5);
            DUE.so("as it was then", State.ofStreet(x).equals(first));
            DUE.is("restored twice", x.restore(), 5);
        }
        x.thinks(0, 4);
        DUE.is("a later one", x.image(), 5);
        x.thinks(0, -4);
        x.restore();
        DUE.is("the later one", x.speaker(0, 3), 13);
        DUE.so("not the first one", !State.ofStreet(x).equals(first));
        DUE.is("refused calls leave it", x.image(), 5);
        x.days(61);
        x.goes(9, 9);
        DUE.is("day", x.restore(), 5);
    }

    /** "An object is used for at most 512 calls": the 512th answers as the first. */
    private static void fiveHundredAndTwelveCalls() {
        BalconiesParliament x = new BalconiesParliament();
        x.keep(0, 1, 0, 5);
        for (int call = 2; call <= 505; call++) {
            DUE.is("call " + call, x.toss(0), 5);
        }
        DUE.is("call 506", x.comes(0, 0), 0);
        DUE.is("call 507", x.comes(0, 1), 1);
        DUE.is("call 508", x.quota(2), 10);
        DUE.is("call 509", x.win(0), 3);
        DUE.is("call 510", x.thinks(0, 9), 0);
        DUE.is("call 511", x.days(60), 1);
        DUE.is("call 512", x.mean(0), 4);
    }
}
