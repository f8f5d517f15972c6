/** All that can be seen of an object, as a text; the object stays as it is. */
final class Seen {
    private final StringBuilder text = new StringBuilder();
    private final AskNext x;

    private Seen(AskNext x) {
        this.x = x;
    }

    static String of(AskNext x) {
        Seen seen = new Seen(x);
        seen.land();
        seen.thought();
        for (int d = 0; d < 8; d++) {
            seen.shelf(d);
        }
        return seen.text.toString();
    }

    private void add(long answer) {
        text.append(answer).append(' ');
    }

    private void land() {
        for (int what = 0; what <= 5; what++) {
            add(x.count(what));
        }
        int cost = x.set(1, 0);
        x.set(1, cost);
        add(cost);
        for (int r = 0; r < x.count(0); r++) {
            for (int what = 0; what <= 2; what++) {
                add(x.road(r, what));
            }
        }
        for (int w = 0; w < x.count(1); w++) {
            for (int what = 0; what <= 2; what++) {
                add(x.world(w, what));
            }
            add(x.way(w, 0));
        }
        for (int s = 0; s < x.count(2); s++) {
            add(x.says(s, 0, 0));
            add(x.says(s, 0, 1));
            for (int c = 0; c < 8; c++) {
                add(x.met(c, s));
            }
        }
    }

    private void thought() {
        for (int w = 0; w < x.count(1); w++) {
            add(x.think(w, 0));
            add(x.think(w, 1));
        }
        // tells the weights themselves, as they are not divided there
        add(x.worth(0));
    }

    private void shelf(int d) {
        add(x.weight(d));
        add(x.toss(d));
        for (int i = 0; Checks.thrownByElement(x, d, i) == 0; i++) {
            add(x.element(d, i));
        }
        // tells the SORTS of ROWS, as only those of one SORT can be copied
        add(x.copy(d, 0, (d + 1) % 8, 0, 0));
        add(x.copy(d, 0, (d + 2) % 8, 0, 0));
        text.append("; ");
    }
}
