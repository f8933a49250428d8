/** Promises 40 to 46: shelves. */
public final class ShelvesTest {
    private static final Due DUE = new Due();

    public static void main(String[] args) {
        promise40();
        promise41();
        promise42();
        promise43();
        promise44();
        promise44Overlap();
        promise45();
        promise46();
        DUE.end("ShelvesTest");
    }

    private static void promise40() {
        BalconiesParliament x = new BalconiesParliament();
        DUE.is("40: keep(0, 1, 7, 9)", x.keep(0, 1, 7, 9), 0);
        DUE.is("40: keep(7, 1, 0, 0)", x.keep(7, 1, 0, 0), 0);
        DUE.is("40: what it holds", x.cost(0), 9);
        DUE.is("40: what it holds", x.cost(7), 2);
        DUE.is("40: keep(8, 1, 0, 0)", x.keep(8, 1, 0, 0), -1);
        DUE.is("40: keep(-1, 0, 0, 0)", x.keep(-1, 0, 0, 0), -1);
        DUE.is("40: keep(0, 2, 0, 0)", x.keep(0, 2, 0, 0), -1);
        DUE.is("40: keep(0, -1, 0, 0)", x.keep(0, -1, 0, 0), -1);
        DUE.is("40: keep(0, 1, 8, 0)", x.keep(0, 1, 8, 0), -1);
        DUE.is("40: keep(0, 1, -1, 0)", x.keep(0, 1, -1, 0), -1);
        DUE.is("40: keep(0, 1, 0, 10)", x.keep(0, 1, 0, 10), -1);
        DUE.is("40: keep(0, 1, 0, -1)", x.keep(0, 1, 0, -1), -1);
        DUE.is("40: as it was", x.cost(0), 9);
        DUE.is("40: nothing, whatever else", x.keep(0, 0, 99, -99), 0);
        DUE.is("40: nothing", x.cost(0), -11);
        x.row(0, 0, 1);
        DUE.is("40: in place of a row", x.keep(0, 1, 0, 0), 0);
        DUE.is("40: a kind", x.put(0, 0, 0), -12);
        // who came stays as he was, whatever the shelf holds then
        x.comes(0, 0);
        x.keep(0, 1, 5, 5);
        DUE.is("40: he stays a speaker", x.speaker(0, 0), 0);
    }

    private static void promise41() {
        BalconiesParliament x = new BalconiesParliament();
        DUE.is("41: row(0, 0, 100)", x.row(0, 0, 100), 0);
        DUE.is("41: the last place", Due.element(x, 0, 99), 0);
        DUE.is("41: row(0, 0, 101)", x.row(0, 0, 101), -1);
        DUE.is("41: row(0, 0, -1)", x.row(0, 0, -1), -14);
        DUE.is("41: row(0, 0, MIN)", x.row(0, 0, Integer.MIN_VALUE), -14);
        DUE.is("41: row(0, 3, 1)", x.row(0, 3, 1), -1);
        DUE.is("41: row(0, -1, 1)", x.row(0, -1, 1), -1);
        DUE.is("41: row(8, 0, 1)", x.row(8, 0, 1), -1);
        DUE.is("41: row(-1, 0, 1)", x.row(-1, 0, 1), -1);
        DUE.is("41: row(8, 0, -1), the first", x.row(8, 0, -1), -1);
        DUE.is("41: row(0, 3, -1), the first", x.row(0, 3, -1), -1);
        DUE.is("41: as it was", Due.element(x, 0, 99), 0);
        x.put(0, 0, 5);
        DUE.is("41: a new one", x.row(0, 2, 3), 0);
        DUE.is("41: 0 at first", Due.element(x, 0, 0), 0);
        DUE.is("41: 3 places", Due.element(x, 0, 3), Oracle.ILLEGAL_STATE);
        DUE.is("41: of no places", x.row(0, 2, 0), 0);
        DUE.is("41: no place", x.put(0, 0, 0), -13);
    }

    private static void promise42() {
        BalconiesParliament x = new BalconiesParliament();
        DUE.is("42: nothing", x.put(0, 0, 0), -11);
        x.keep(0, 1, 0, 0);
        DUE.is("42: a kind", x.put(0, 0, 0), -12);
        DUE.is("42: put(8, 0, 0)", x.put(8, 0, 0), -1);
        DUE.is("42: put(-1, 0, 0)", x.put(-1, 0, 0), -1);
        int[] values = {0, 127, 128, -129, 32768, -32769, 70000, Integer.MIN_VALUE, Integer.MAX_VALUE};
        for (int sort = 0; sort < 3; sort++) {
            x.row(0, sort, 2);
            for (int v : values) {
                long kept = sort == 0 ? (byte) v : sort == 1 ? (short) v : v;
                DUE.is("42: put(0, 1, " + v + ")", x.put(0, 1, v), 0);
                DUE.is("42: its lowest bits", Due.element(x, 0, 1), kept);
            }
            DUE.is("42: put(0, 2, 1)", x.put(0, 2, 1), -13);
            DUE.is("42: put(0, -1, 1)", x.put(0, -1, 1), -13);
            DUE.is("42: beside it", Due.element(x, 0, 0), 0);
        }
    }

    private static void promise43() {
        BalconiesParliament x = new BalconiesParliament();
        DUE.is("43: no such shelf", Due.element(x, 8, 0), Oracle.ILLEGAL_ARGUMENT);
        DUE.is("43: no such shelf", Due.element(x, -1, -1), Oracle.ILLEGAL_ARGUMENT);
        DUE.is("43: nothing", Due.element(x, 0, 0), Oracle.ILLEGAL_STATE);
        x.keep(0, 1, 0, 0);
        DUE.is("43: a kind", Due.element(x, 0, 0), Oracle.ILLEGAL_STATE);
        Due.tell(x, 0, 2, 5, -6);
        DUE.is("43: element(0, 0)", Due.element(x, 0, 0), 5);
        DUE.is("43: element(0, 1)", Due.element(x, 0, 1), -6);
        DUE.is("43: element(0, 2)", Due.element(x, 0, 2), Oracle.ILLEGAL_STATE);
        DUE.is("43: element(0, -1)", Due.element(x, 0, -1), Oracle.ILLEGAL_STATE);
        DUE.is("43: element(0, MAX)", Due.element(x, 0, Integer.MAX_VALUE), Oracle.ILLEGAL_STATE);
    }

    private static void promise44() {
        BalconiesParliament x = new BalconiesParliament();
        Due.tell(x, 0, 1, 1, 2, 3);
        DUE.is("44: one nothing", x.copy(0, 0, 1, 0, 1), -11);
        DUE.is("44: the other nothing", x.copy(1, 0, 0, 0, 1), -11);
        DUE.is("44: copy(8, ..)", x.copy(8, 0, 1, 0, 1), -1);
        DUE.is("44: copy(.., 8, ..)", x.copy(1, 0, 8, 0, 1), -1);
        DUE.is("44: copy(-1, ..)", x.copy(-1, 0, 0, 0, 1), -1);
        DUE.is("44: copy(.., -1, ..)", x.copy(0, 0, -1, 0, 1), -1);
        x.keep(1, 1, 0, 0);
        DUE.is("44: a kind", x.copy(0, 0, 1, 0, 1), -12);
        DUE.is("44: a kind", x.copy(1, 0, 0, 0, 1), -12);
        DUE.is("44: a kind and nothing", x.copy(1, 0, 2, 0, 1), -11);
        x.row(1, 1, 3);
        x.keep(1, 1, 0, 0);
        DUE.is("44: a kind where such a row was", x.copy(0, 0, 1, 0, 1), -12);
        DUE.is("44: a kind where such a row was", x.copy(1, 0, 0, 0, 1), -12);
        Due.tell(x, 1, 2, 0, 0);
        DUE.is("44: another sort", x.copy(0, 0, 1, 0, 9), -12);
        Due.tell(x, 1, 1, 7, 8, 9, 10);
        DUE.is("44: copy(0, 1, 1, 2, 2)", x.copy(0, 1, 1, 2, 2), 2);
        int[] due = {7, 8, 2, 3};
        for (int i = 0; i < 4; i++) {
            DUE.is("44: element " + i, Due.element(x, 1, i), due[i]);
        }
        DUE.is("44: n below 0", x.copy(0, 0, 1, 0, -1), -13);
        DUE.is("44: i below 0", x.copy(0, -1, 1, 0, 1), -13);
        DUE.is("44: j below 0", x.copy(0, 0, 1, -1, 1), -13);
        DUE.is("44: too many there", x.copy(0, 0, 1, 0, 4), -13);
        DUE.is("44: too many here", x.copy(0, 0, 1, 2, 3), -13);
        DUE.is("44: none", x.copy(0, 3, 1, 4, 0), 0);
        DUE.is("44: none, behind the end", x.copy(0, 4, 1, 0, 0), -13);
        DUE.is("44: none, behind the end", x.copy(0, 0, 1, 5, 0), -13);
        int most = Integer.MAX_VALUE;
        DUE.is("44: wrapped round", x.copy(0, 1, 1, 0, most), -13);
        DUE.is("44: wrapped round", x.copy(0, most, 1, most, most), -13);
        DUE.is("44: wrapped round", x.copy(0, Integer.MIN_VALUE, 1, 0, Integer.MIN_VALUE), -13);
        DUE.is("44: what is taken stays", Due.element(x, 0, 2), 3);
        // two rows stay two
        x.put(0, 1, 50);
        DUE.is("44: a copy", Due.element(x, 1, 2), 2);
    }

    private static void promise44Overlap() {
        BalconiesParliament x = new BalconiesParliament();
        Due.tell(x, 0, 0, 1, 2, 3, 4, 5);
        DUE.is("44: up", x.copy(0, 0, 0, 1, 4), 4);
        int[] up = {1, 1, 2, 3, 4};
        for (int i = 0; i < 5; i++) {
            DUE.is("44: up, " + i, Due.element(x, 0, i), up[i]);
        }
        DUE.is("44: down", x.copy(0, 1, 0, 0, 4), 4);
        int[] down = {1, 2, 3, 4, 4};
        for (int i = 0; i < 5; i++) {
            DUE.is("44: down, " + i, Due.element(x, 0, i), down[i]);
        }
    }

    private static void promise45() {
        BalconiesParliament x = new BalconiesParliament();
        for (int figure = 0; figure < 10; figure++) {
            int[] costs = {2, 2 + figure, 0, 1, 0, 1, 2 * (2 + figure), 9};
            for (int kind = 0; kind < 8; kind++) {
                x.keep(4, 1, kind, figure);
                DUE.is("45: cost of kind " + kind, x.cost(4), costs[kind]);
            }
        }
        DUE.is("45: cost(8)", x.cost(8), -1);
        DUE.is("45: cost(-1)", x.cost(-1), -1);
        DUE.is("45: nothing", x.cost(0), -11);
        x.row(0, 0, 1);
        DUE.is("45: a row", x.cost(0), -12);
    }

    private static void promise46() {
        BalconiesParliament x = new BalconiesParliament();
        for (int figure = 0; figure < 10; figure++) {
            int[] failures = {figure, 100 + figure, -15, figure, figure, -15, 204 + 2 * figure, figure};
            for (int kind = 0; kind < 8; kind++) {
                x.keep(4, 1, kind, figure);
                DUE.is("46: toss of kind " + kind, x.toss(4), figure == 0 ? -15 : failures[kind]);
            }
        }
        DUE.is("46: toss(8)", x.toss(8), -1);
        DUE.is("46: toss(-1)", x.toss(-1), -1);
        DUE.is("46: nothing", x.toss(0), -11);
        x.row(0, 0, 1);
        DUE.is("46: a row", x.toss(0), -12);
    }
}
