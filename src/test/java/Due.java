/** Counts the answers that are not the ones due; every test of the project ends with end(). */
final class Due {
    private int wrong = 0;
    private int asked = 0;

    void is(String call, long got, long want) {
        asked++;
        if (got != want) {
            wrong++;
            if (wrong <= 40) {
                System.out.println(call + " answered " + got + ", due is " + want);
            }
        }
    }

    void so(String what, boolean holds) {
        is(what, holds ? 1 : 0, 1);
    }

    int wrong() {
        return wrong;
    }

    void end(String test) {
        System.out.println(test + ": " + asked + " answers, " + wrong + " not as due");
        if (wrong != 0) {
            System.exit(1);
        }
    }

    /** What element answers, or the oracle's number for what it throws. */
    static long element(BalconiesParliament x, int d, int i) {
        try {
            return x.element(d, i);
        } catch (IllegalArgumentException e) {
            return Oracle.ILLEGAL_ARGUMENT;
        } catch (IllegalStateException e) {
            return Oracle.ILLEGAL_STATE;
        }
    }

    /** Shelf d gets a row of a sort with these elements. */
    static void tell(BalconiesParliament x, int d, int sort, int... elements) {
        x.row(d, sort, elements.length);
        for (int i = 0; i < elements.length; i++) {
            x.put(d, i, elements[i]);
        }
    }

    /** What quarter answers to a text. */
    static int read(BalconiesParliament x, String text) {
        int[] bytes = new int[text.length()];
        for (int i = 0; i < bytes.length; i++) {
            bytes[i] = text.charAt(i);
        }
        tell(x, 7, 0, bytes);
        return x.quarter(7);
    }

    static BalconiesParliament street(String text) {
        BalconiesParliament x = new BalconiesParliament();
        if (read(x, text) < 0) {
            throw new IllegalStateException("the test's own text has a fault: " + text);
        }
        return x;
    }
}
