/** All that an object tells of itself, but for fault(), as one text: it takes some 300 calls. */
final class Seen {
    private final SameTuesday x;
    private final StringBuilder told = new StringBuilder();

    private Seen(SameTuesday x) {
        this.x = x;
    }

    static String of(SameTuesday x) {
        Seen seen = new Seen(x);
        seen.day();
        seen.sheets();
        seen.days();
        seen.canBe();
        return seen.told.toString();
    }

    private void add(long answer) {
        told.append(answer == SameTuesday.LOST ? "lost" : Long.toString(answer)).append(' ');
    }

    private void day() {
        add(x.trace());
        for (int what = 0; what < 4; what++) {
            add(x.many(what));
            for (int h = 0; h < 6; h++) {
                add(x.ofHappening(h, what));
            }
            for (int d = 0; d < 5; d++) {
                add(x.ofDeed(d, what));
            }
        }
    }

    private void sheets() {
        for (int k = 0; k < 4; k++) {
            for (int lane = 0; lane < 3; lane++) {
                told.append("/ ");
                boolean has = true;
                for (int i = 0; has && i <= 60; i++) {
                    long cell = x.cell(k, i, lane);
                    add(cell);
                    has = cell != SameTuesday.LOST;
                }
                add(x.fault());
            }
        }
    }

    private void days() {
        for (int k = -1; k < 64; k++) {
            add(x.laws(k));
        }
        add(x.fewest());
        add(x.next(0));
        add(x.next(1));
    }

    private void canBe() {
        for (int set = 0; set < 64; set += 3) {
            add(x.soonest(set));
            add(x.bar(set));
            add(x.can(59, set));
        }
        add(x.live(1, Due.INTS, 0, 2, 0));
        add(x.live(1, Due.INTS, 0, 2, 1));
    }
}
