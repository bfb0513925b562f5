import java.util.ArrayList;
import java.util.HashSet;
import java.util.List;
import java.util.Set;

/** The document's words on days, once more and as plainly as can be, for comparing answers. */
final class Model {
    static final int NONE = -9;

    /** Each: kind, minute, need, fact. */
    final List<int[]> happenings = new ArrayList<>();
    /** Each: need, fact, undoes, long. */
    final List<int[]> deeds = new ArrayList<>();
    final List<Integer> days = new ArrayList<>();
    int minutes = 60;

    static boolean met(int need, int facts) {
        return need == 6 || (facts & 1 << need) != 0;
    }

    private int happen(int minute, int facts, int there) {
        int now = facts;
        for (int h = 0; h < happenings.size(); h++) {
            int[] of = happenings.get(h);
            if (of[1] == minute && (there & 1 << h) != 0 && met(of[2], now)) {
                int bit = 1 << of[3];
                now = of[0] == 0 ? now | bit : of[0] == 1 ? now & ~bit : now ^ bit;
            }
        }
        return now;
    }

    private int end(int d, int facts) {
        int[] of = deeds.get(d);
        int now = facts | 1 << of[1];
        return of[2] == 6 ? now : now & ~(1 << of[2]);
    }

    /** The facts as a minute ends, by pairs each of which can be; with one of another (null: none). */
    private int facts(int minute, List<int[]> pairs, int[] other, int there) {
        int now = 0;
        for (int m = 0; m <= minute; m++) {
            now = happen(m, now, there);
            for (int[] pair : pairs) {
                if (pair[0] + deeds.get(pair[1])[3] == m) {
                    now = end(pair[1], now);
                }
            }
            if (other != null && other[0] + deeds.get(other[1])[3] == m) {
                now = end(other[1], now);
            }
        }
        return now;
    }

    private boolean canBegin(int[] pair, List<int[]> kept, int[] other, int there) {
        for (int[] ahead : kept) {
            if (pair[0] < ahead[0] + deeds.get(ahead[1])[3]) {
                return false;
            }
        }
        return fits(pair, kept, other, there);
    }

    private boolean fits(int[] pair, List<int[]> kept, int[] other, int there) {
        int[] deed = deeds.get(pair[1]);
        return pair[0] + deed[3] < minutes && met(deed[0], facts(pair[0], kept, other, there));
    }

    /** The pairs that can be, one after another; the first that could not is put into wrong[0]. */
    private List<int[]> kept(int[][] row, int[] other, int there, int[] wrong) {
        List<int[]> kept = new ArrayList<>();
        wrong[0] = NONE;
        for (int p = 0; p < row.length; p++) {
            boolean right = true;
            for (int q = 0; q < p; q++) {
                right &= row[q][0] < row[p][0];
            }
            if (right && canBegin(row[p], kept, other, there)) {
                kept.add(row[p]);
            } else if (wrong[0] == NONE) {
                wrong[0] = p;
            }
        }
        return kept;
    }

    int firstWrong(int[][] row) {
        int[] wrong = new int[1];
        kept(row, null, 63, wrong);
        return wrong[0];
    }

    int at(int m, int[][] row, int there) {
        return facts(Math.min(m, minutes - 1), kept(row, null, there, new int[1]), null, there);
    }

    int ends(int[][] row, int there) {
        return at(59, row, there);
    }

    int hangs(int[][] row) {
        int set = 0;
        for (int h = 0; h < happenings.size(); h++) {
            set |= ends(row, 63 - (1 << h)) != ends(row, 63) ? 1 << h : 0;
        }
        return set;
    }

    List<Integer> others(int[][] row, int set) {
        List<Integer> found = new ArrayList<>();
        for (int m = 0; m < minutes; m++) {
            for (int d = 0; d < deeds.size(); d++) {
                int[] other = {m, d};
                List<int[]> kept = kept(row, other, 63, new int[1]);
                // Its end is behind the minute of its beginning and so does not meet its own need.
                if (fits(other, kept, other, 63) && facts(minutes - 1, kept, other, 63) == set) {
                    found.add(10 * m + d);
                }
            }
        }
        return found;
    }

    /** Upper and lower number. */
    int[] odds(int[][] row, int set) {
        int upper = 0;
        int lower = 1 << happenings.size();
        for (int there = 0; there < lower; there++) {
            upper += (ends(row, there) & set) == set ? 1 : 0;
        }
        for (int by = 64; by > 1; by--) {
            if (upper % by == 0 && lower % by == 0) {
                upper /= by;
                lower /= by;
            }
        }
        return new int[] {upper, lower};
    }

    /** For each minute the states as it ends, by going through all that could be done. */
    List<Set<Integer>> canBe() {
        List<Set<Integer>> states = new ArrayList<>();
        Set<List<Integer>> now = new HashSet<>();
        now.add(List.of(0, -1, 0));
        for (int m = 0; m < minutes; m++) {
            Set<List<Integer>> then = new HashSet<>();
            Set<Integer> facts = new HashSet<>();
            for (List<Integer> way : now) {
                int f = happen(m, way.get(0), 63);
                int d = way.get(1);
                if (d >= 0 && way.get(2) == m) {
                    f = end(d, f);
                    d = -1;
                }
                facts.add(f);
                then.add(List.of(f, d, d < 0 ? 0 : way.get(2)));
                for (int b = 0; d < 0 && b < deeds.size(); b++) {
                    int[] deed = deeds.get(b);
                    if (met(deed[0], f) && m + deed[3] < minutes) {
                        then.add(List.of(f, b, m + deed[3]));
                    }
                }
            }
            states.add(facts);
            now = then;
        }
        return states;
    }

    int soonest(int set) {
        List<Set<Integer>> states = canBe();
        for (int m = 0; m < minutes; m++) {
            for (int state : states.get(m)) {
                if ((state & set) == set) {
                    return m;
                }
            }
        }
        return NONE;
    }

    int bar(int set) {
        Set<Integer> last = canBe().get(minutes - 1);
        for (int a = 0; a < 6; a++) {
            for (int b = a + 1; b < 6; b++) {
                boolean both = false;
                for (int state : last) {
                    both |= (state & 1 << a) != 0 && (state & 1 << b) != 0;
                }
                if ((set & 1 << a) != 0 && (set & 1 << b) != 0 && !both) {
                    return 10 * a + b;
                }
            }
        }
        return NONE;
    }

    List<Integer> laws() {
        List<Integer> laws = new ArrayList<>();
        for (int set = 0; set < 64; set++) {
            boolean can = true;
            for (int day : days) {
                can &= (set & day) != set;
            }
            if (can) {
                laws.add(set);
            }
        }
        return laws;
    }

    int fewest() {
        for (int size = 0; size <= 6; size++) {
            for (int law : laws()) {
                if (Integer.bitCount(law) == size) {
                    return law;
                }
            }
        }
        return NONE;
    }

    /** The state, and the lesser number. */
    int[] next() {
        Set<Integer> last = canBe().get(minutes - 1);
        int[] best = {NONE, -1};
        for (int state = 0; state < 64; state++) {
            int within = 0;
            int not = 0;
            for (int law : laws()) {
                if ((law & ~state) == 0) {
                    within++;
                } else {
                    not++;
                }
            }
            if (last.contains(state) && Math.min(within, not) > best[1]) {
                best = new int[] {state, Math.min(within, not)};
            }
        }
        return best;
    }
}
