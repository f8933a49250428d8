/** What can be asked of an object without changing it, as one text. */
final class State {
    private State() {
    }

    static String of(BalconiesParliament x) {
        StringBuilder all = new StringBuilder(ofStreet(x));
        for (int d = 0; d < 8; d++) {
            all.append(x.cost(d)).append(' ').append(x.toss(d)).append(' ');
            long element = x.cost(d) == -12 ? 0 : Oracle.ILLEGAL_STATE;
            for (int i = 0; element != Oracle.ILLEGAL_STATE; i++) {
                element = Due.element(x, d, i);
                all.append(element).append(' ');
            }
        }
        return all.toString();
    }

    /** The street without the shelves: what an image has. */
    static String ofStreet(BalconiesParliament x) {
        StringBuilder all = new StringBuilder();
        for (int what = 0; what < 7; what++) {
            all.append(x.count(what)).append(' ');
        }
        for (int b = 0; b < 10; b++) {
            all.append(x.balcony(b, 0)).append(' ');
        }
        for (int s = 0; s < 7; s++) {
            for (int what = 0; what < 4; what++) {
                all.append(x.speaker(s, what)).append(' ');
            }
        }
        return all.toString();
    }
}
