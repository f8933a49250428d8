/**
 * "Answers of several REFUSALS are the first one as they are told at the call": two in one call, of
 * each call that tells more than one.
 */
public final class OrderTest {
    private static final Due DUE = new Due();

    public static void main(String[] args) {
        quarter();
        comes();
        days();
        law();
        whatIs();
        rowCalls();
        row();
        put();
        element();
        copy();
        keep();
        fullTexts();
        DUE.end("OrderTest");
    }

    /** Shelf 0 nothing, 1 a kind, 2 a row of bytes, 3 a row of shorts, 4 an empty row of bytes. */
    private static BalconiesParliament shelves(int people) {
        BalconiesParliament x = new BalconiesParliament();
        x.keep(1, 1, 0, 0);
        x.row(2, 0, 3);
        x.row(3, 1, 3);
        x.row(4, 0, 0);
        for (int s = 0; s < people; s++) {
            x.comes(1, s);
        }
        return x;
    }

    private static void is(BalconiesParliament x, long due, String call, int... args) {
        String before = State.of(x);
        DUE.is(call + java.util.Arrays.toString(args), Calls.ask(x, call, args), due);
        DUE.so(call + " changes nothing", State.of(x).equals(before));
    }

    /** quarter: "-1, -11, -12 (no ROW of bytes)", and a fault only of what is a row of bytes. */
    private static void quarter() {
        BalconiesParliament x = shelves(7);
        is(x, -1, "quarter", 8);
        is(x, -11, "quarter", 0);
        is(x, -12, "quarter", 1);
        is(x, -12, "quarter", 3);
        is(x, -1000, "quarter", 2);
        is(x, -1000, "quarter", 4);
        x.row(3, 2, 0);
        is(x, -12, "quarter", 3);
    }

    /** comes: "-1, -11, -12 (a ROW), -2". */
    private static void comes() {
        BalconiesParliament full = shelves(7);
        is(full, -1, "comes", 8, 0);
        is(full, -1, "comes", -1, 0);
        is(full, -1, "comes", 1, 10);
        is(full, -1, "comes", 1, -1);
        is(full, -1, "comes", 8, 10);
        is(full, -1, "comes", 0, 10);
        is(full, -1, "comes", 2, -1);
        is(full, -11, "comes", 0, 0);
        is(full, -12, "comes", 2, 0);
        is(full, -12, "comes", 4, 0);
        is(full, -2, "comes", 1, 0);
        BalconiesParliament roomy = shelves(6);
        is(roomy, -1, "comes", 0, 10);
        is(roomy, -1, "comes", 2, 10);
        is(roomy, -11, "comes", 0, 9);
        is(roomy, -12, "comes", 2, 9);
        DUE.is("comes(1, 9) is fine", roomy.comes(1, 9), 6);
    }

    /** days: "-1, -3 DAY above 999". */
    private static void days() {
        BalconiesParliament x = new BalconiesParliament();
        for (int i = 0; i < 16; i++) {
            x.days(60);
        }
        x.days(39);
        is(x, -1, "days", 61);
        is(x, -1, "days", Integer.MAX_VALUE);
        is(x, -1, "days", 0);
        is(x, -3, "days", 1);
        is(x, -3, "days", 60);
    }

    /** law: "-1, -11, -12 (no ROW), -13". */
    private static void law() {
        BalconiesParliament x = shelves(1);
        is(x, -1, "law", 8, 3);
        is(x, -1, "law", 8, 0);
        is(x, -1, "law", 0, 3);
        is(x, -1, "law", 0, -1);
        is(x, -1, "law", 1, 3);
        is(x, -1, "law", 2, 3);
        is(x, -11, "law", 0, 2);
        is(x, -12, "law", 1, 2);
        is(x, -13, "law", 2, 2);
        is(x, -13, "law", 3, 0);
        is(x, 99, "law", 4, 0);
    }

    /** whatIs: "-1, -11, -12". */
    private static void whatIs() {
        BalconiesParliament x = shelves(1);
        is(x, -1, "whatIs", 8, 0, 0);
        is(x, -1, "whatIs", 0, 1, 0);
        is(x, -1, "whatIs", 0, 0, 2);
        is(x, -1, "whatIs", 1, 1, 0);
        is(x, -1, "whatIs", 1, 0, -1);
        is(x, -1, "whatIs", 2, -1, 2);
        is(x, -11, "whatIs", 0, 0, 0);
        is(x, -12, "whatIs", 1, 0, 0);
        is(x, 255, "whatIs", 4, 0, 0);
    }

    /** forged and judge: "-1, -11, -12", of rows of any sort; cost and toss the other way round. */
    private static void rowCalls() {
        BalconiesParliament x = shelves(0);
        for (String call : new String[] {"forged", "judge"}) {
            is(x, -1, call, 8);
            is(x, -11, call, 0);
            is(x, -12, call, 1);
            is(x, -4, call, 4);
        }
        for (String call : new String[] {"cost", "toss"}) {
            is(x, -1, call, 8);
            is(x, -11, call, 0);
            is(x, -12, call, 2);
            is(x, -12, call, 4);
        }
        is(x, -15, "toss", 1);
    }

    /** row: "-1 (n above 100); -14". */
    private static void row() {
        BalconiesParliament x = shelves(0);
        is(x, -1, "row", 8, 0, -1);
        is(x, -1, "row", -1, 0, -1);
        is(x, -1, "row", 0, 3, -1);
        is(x, -1, "row", 0, -1, Integer.MIN_VALUE);
        is(x, -1, "row", 0, 0, 101);
        is(x, -14, "row", 0, 0, -1);
        is(x, -14, "row", 2, 2, -1);
    }

    /** put: "-1, -11, -12, -13". */
    private static void put() {
        BalconiesParliament x = shelves(0);
        is(x, -1, "put", 8, -1, 0);
        is(x, -1, "put", -1, 101, 0);
        is(x, -11, "put", 0, -1, 0);
        is(x, -11, "put", 0, 101, 0);
        is(x, -12, "put", 1, -1, 0);
        is(x, -12, "put", 1, 101, 0);
        is(x, -13, "put", 2, 3, 0);
        is(x, -13, "put", 4, 0, 0);
    }

    /** element: no such shelf ahead of no row, no row or place by the same exception. */
    private static void element() {
        BalconiesParliament x = shelves(0);
        is(x, Oracle.ILLEGAL_ARGUMENT, "element", 8, 0);
        is(x, Oracle.ILLEGAL_ARGUMENT, "element", -1, -1);
        is(x, Oracle.ILLEGAL_ARGUMENT, "element", Integer.MIN_VALUE, Integer.MAX_VALUE);
        is(x, Oracle.ILLEGAL_STATE, "element", 0, 0);
        is(x, Oracle.ILLEGAL_STATE, "element", 1, 0);
        is(x, Oracle.ILLEGAL_STATE, "element", 1, -1);
        is(x, Oracle.ILLEGAL_STATE, "element", 2, 3);
        is(x, Oracle.ILLEGAL_STATE, "element", 4, 0);
    }

    /** copy: "-1, -11 (either), -12 (no ROWS of one SORT), -13 (n below 0, too)". */
    private static void copy() {
        BalconiesParliament x = shelves(0);
        is(x, -1, "copy", 8, 0, 0, 0, 1);
        is(x, -1, "copy", 0, 0, 8, 0, 1);
        is(x, -1, "copy", 1, 0, -1, 0, 1);
        is(x, -1, "copy", -1, 0, 1, 0, 1);
        is(x, -1, "copy", 2, 9, 8, 9, -1);
        is(x, -1, "copy", 8, 9, 2, 9, -1);
        is(x, -11, "copy", 0, 0, 1, 0, 1);
        is(x, -11, "copy", 1, 0, 0, 0, 1);
        is(x, -11, "copy", 0, 0, 0, 0, 1);
        is(x, -11, "copy", 0, -1, 2, 0, -1);
        is(x, -11, "copy", 2, 9, 0, 9, 9);
        is(x, -12, "copy", 1, 0, 1, 0, 1);
        is(x, -12, "copy", 1, -1, 2, 0, 1);
        is(x, -12, "copy", 2, 0, 1, 0, -1);
        is(x, -12, "copy", 2, 0, 3, 0, -1);
        is(x, -12, "copy", 3, 9, 2, 9, 9);
        is(x, -12, "copy", 3, 0, 2, 0, 0);
        is(x, -13, "copy", 2, 0, 4, 0, 1);
        is(x, -13, "copy", 4, 0, 2, 0, 1);
        is(x, -13, "copy", 2, 0, 2, 0, -1);
        is(x, 0, "copy", 2, 0, 4, 0, 0);
    }

    /** keep: a shelf that isn't there is refused, even if nothing else matters. */
    private static void keep() {
        BalconiesParliament x = shelves(0);
        is(x, -1, "keep", 8, 0, 0, 0);
        is(x, -1, "keep", -1, 0, 8, 10);
        is(x, -1, "keep", 1, 2, 0, 0);
        is(x, -1, "keep", 1, 1, 8, 10);
    }

    /** A text of kind 1 and kind 2 in one: kind 1; of two of kind 2: the first. */
    private static void fullTexts() {
        BalconiesParliament x = shelves(7);
        String before = State.ofStreet(x);
        DUE.is("s000;x", Due.read(x, "s000;x"), -1005);
        DUE.is("q00;d00", Due.read(x, "q00;d00"), -1007);
        DUE.is("q00;d00;", Due.read(x, "q00;d00;"), -2000);
        DUE.is("b00;d00;q00;", Due.read(x, "b00;d00;q00;"), -2004);
        DUE.is("s800; without room", Due.read(x, "s800;"), -2000);
        DUE.so("no text comes", State.ofStreet(x).equals(before));
    }
}
