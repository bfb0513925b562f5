import java.util.Arrays;
import java.util.List;
import java.util.Set;
import java.util.regex.Matcher;
import java.util.regex.Pattern;

/**
 * The whole document once more, for comparing answers: sheets are Java's own arrays, kinds its classes, and a fault
 * is what the machine throws, so that none of it is told twice in the same way. Days are Model's.
 */
final class Twin {
    private static final int UNKNOWN = -1, OUTSIDE = -2, STATE = -3, FULL = -4, NONE = -9;
    private static final long LOST = Long.MIN_VALUE;
    private static final Pattern TEXT =
        Pattern.compile("s(;[hmc][0-5][0-9][0-6][0-5]){1,6}(,[0-6][0-5][0-6][1-9]){0,5}");

    private final Object[] sheets = new Object[4];
    /** Null: there is no TUESDAY. */
    private Model model;
    private Happening[] happenings = {};
    private List<Set<Integer>> canBe;
    private int left;
    private int fault;

    /** A call that is refused, with its answer. */
    private static final class Refused extends RuntimeException {
        private static final long serialVersionUID = 1L;
        private final int answer;

        Refused(int answer) {
            this.answer = answer;
        }
    }

    private interface Call {
        long answer();
    }

    private interface Rhyming {
        int number();

        void leaves(int body);

        default int rhymed() {
            leaves(4);
            return number();
        }
    }

    private class Happening implements Rhyming {
        private final int number;

        Happening(int number) {
            this.number = number;
        }

        public int number() {
            return number;
        }

        public void leaves(int body) {
            left = left * 31 + body;
        }

        int told() {
            return asHappening();
        }

        private int asHappening() {
            leaves(1);
            return model.happenings.get(number)[1];
        }
    }

    private class Mishap extends Happening {
        Mishap(int number) {
            super(number);
        }

        int told() {
            leaves(2);
            return super.told() + 100;
        }
    }

    private final class Caprice extends Mishap {
        Caprice(int number) {
            super(number);
        }

        int told() {
            leaves(3);
            int mishap = super.told();
            return mishap + ((Happening) this).asHappening();
        }

        public int rhymed() {
            leaves(5);
            return 40;
        }
    }

    private static void refuseIf(boolean so, int answer) {
        if (so) {
            throw new Refused(answer);
        }
    }

    private static long plain(Call call) {
        try {
            return call.answer();
        } catch (Refused refused) {
            return refused.answer;
        }
    }

    /** Of a call that names FAULTS. */
    private long faulting(Call call) {
        fault = 0;
        try {
            return plain(call);
        } catch (NullPointerException nothing) {
            fault = 1;
        } catch (ClassCastException | ArrayStoreException unlike) {
            fault = 2;
        } catch (IndexOutOfBoundsException beyond) {
            fault = 3;
        } catch (NegativeArraySizeException below) {
            fault = 4;
        }
        return -10 - fault;
    }

    private static void within(int v, int least, int most) {
        refuseIf(v < least || v > most, OUTSIDE);
    }

    private void told() {
        refuseIf(model == null, STATE);
    }

    private Object sheetOf(int k) {
        refuseIf(k < 0 || k > 3, UNKNOWN);
        return sheets[k];
    }

    /** The lane of what a sheet has; 0, if there is nothing. */
    int lane(int k) {
        Object row = k >= 0 && k < 4 ? sheets[k] : null;
        return row instanceof int[] ? 2 : row instanceof short[] ? 1 : 0;
    }

    private static Object row(int lane, int n) {
        return lane == 0 ? new byte[n] : lane == 1 ? new short[n] : new int[n];
    }

    /** The cells as numbers; the machine casts, makes the row and copies. */
    private static int[] cells(Object sheet, int lane, int i, int n) {
        Object as = lane == 0 ? (byte[]) sheet : lane == 1 ? (short[]) sheet : (int[]) sheet;
        if (as == null) {
            throw new NullPointerException();
        }
        // What the machine would say, too, but only after it had made so long a row.
        if (n > 60) {
            throw new IndexOutOfBoundsException();
        }
        Object part = row(lane, n);
        System.arraycopy(as, i, part, 0, n);
        int[] cells = new int[n];
        for (int k = 0; k < n; k++) {
            cells[k] = ((Number) java.lang.reflect.Array.get(part, k)).intValue();
        }
        return cells;
    }

    // ---- 1 the day

    long tuesday(int sheet, int lane, int i, int n) {
        return faulting(() -> {
            Object from = sheetOf(sheet);
            within(lane, 0, 2);
            int[] codes = cells(from, lane, i, n);
            StringBuilder text = new StringBuilder();
            for (int code : codes) {
                text.append(code >= 0 && code < 128 ? (char) code : (char) 128);
            }
            for (int p = 1; p <= n; p++) {
                Matcher start = TEXT.matcher(text.substring(0, p));
                refuseIf(!start.matches() && !start.hitEnd(), -100 - (p - 1));
            }
            refuseIf(!TEXT.matcher(text).matches(), -100 - n);
            take(text.substring(1));
            return happenings.length;
        });
    }

    private void take(String parts) {
        model = new Model();
        for (String part : parts.split("(?=[;,])")) {
            int[] of = part.substring(1).chars().map(code -> code - '0').toArray();
            if (part.charAt(0) == ';') {
                model.happenings.add(new int[] {"hmc".indexOf(part.charAt(1)), 10 * of[1] + of[2], of[3], of[4]});
            } else {
                model.deeds.add(of);
            }
        }
        happenings = new Happening[model.happenings.size()];
        for (int h = 0; h < happenings.length; h++) {
            int kind = model.happenings.get(h)[0];
            happenings[h] = kind == 0 ? new Happening(h) : kind == 1 ? new Mishap(h) : new Caprice(h);
        }
        canBe = null;
    }

    private Happening happening(int h) {
        refuseIf(h < 0 || h >= happenings.length, UNKNOWN);
        return happenings[h];
    }

    long ofHappening(int h, int what) {
        return plain(() -> {
            int number = happening(h).number();
            within(what, 0, 3);
            return model.happenings.get(number)[what];
        });
    }

    long ofDeed(int d, int what) {
        return plain(() -> {
            refuseIf(model == null || d < 0 || d >= model.deeds.size(), UNKNOWN);
            within(what, 0, 3);
            return model.deeds.get(d)[what];
        });
    }

    long minutes(int v) {
        return plain(() -> {
            within(v, 1, 60);
            told();
            int had = model.minutes;
            model.minutes = v;
            canBe = null;
            return had;
        });
    }

    long shift(int h, int v) {
        return plain(() -> {
            int number = happening(h).number();
            within(v, 0, 59);
            int was = model.happenings.get(number)[1];
            model.happenings.get(number)[1] = v;
            canBe = null;
            return was;
        });
    }

    // ---- 2 days lived

    private int[][] pairs(int sheet, int lane, int i, int n) {
        Object from = sheetOf(sheet);
        within(lane, 0, 2);
        within(n, 0, 20);
        int[] cells = cells(from, lane, i, 2 * n);
        told();
        int[][] pairs = new int[n][];
        for (int p = 0; p < n; p++) {
            pairs[p] = Arrays.copyOfRange(cells, 2 * p, 2 * p + 2);
            within(pairs[p][0], 0, 59);
            refuseIf(pairs[p][1] < 0 || pairs[p][1] >= model.deeds.size(), UNKNOWN);
        }
        return pairs;
    }

    long live(int sheet, int lane, int i, int n, int what) {
        return faulting(() -> {
            sheetOf(sheet);
            within(what, 0, 1);
            int[][] pairs = pairs(sheet, lane, i, n);
            return what == 0 ? model.firstWrong(pairs) : model.ends(pairs, 63);
        });
    }

    long at(int m, int sheet, int lane, int i, int n) {
        return faulting(() -> {
            sheetOf(sheet);
            within(m, 0, 59);
            int[][] pairs = pairs(sheet, lane, i, n);
            return model.at(m, pairs, 63);
        });
    }

    long hangs(int sheet, int lane, int i, int n) {
        return faulting(() -> {
            int[][] pairs = pairs(sheet, lane, i, n);
            return model.hangs(pairs);
        });
    }

    // ---- 3 what can be

    private Set<Integer> canBe(int m) {
        if (canBe == null) {
            canBe = model.canBe();
        }
        return canBe.get(Math.min(m, model.minutes - 1));
    }

    long can(int m, int set) {
        return plain(() -> {
            within(m, 0, 59);
            within(set, 0, 63);
            told();
            return canBe(m).contains(set) ? 1 : 0;
        });
    }

    long soonest(int set) {
        return plain(() -> {
            within(set, 0, 63);
            told();
            for (int m = 0; m < model.minutes; m++) {
                if (canBe(m).stream().anyMatch(state -> (state & set) == set)) {
                    return m;
                }
            }
            return NONE;
        });
    }

    long bar(int set) {
        return plain(() -> {
            within(set, 0, 63);
            told();
            for (int ab = 0; ab < 60; ab++) {
                int two = 1 << ab / 10 | 1 << ab % 10;
                boolean isOf = ab / 10 < ab % 10 && (two & ~set) == 0;
                if (isOf && canBe(59).stream().noneMatch(state -> (state & two) == two)) {
                    return ab;
                }
            }
            return NONE;
        });
    }

    // ---- 4 the law

    long day(int set) {
        return plain(() -> {
            within(set, 0, 63);
            told();
            refuseIf(model.days.size() == 8, FULL);
            model.days.add(set);
            return model.days.size() - 1;
        });
    }

    long forget(int k) {
        return plain(() -> {
            int there = (int) many(3);
            within(k, 0, there);
            for (int j = 0; j < k; j++) {
                model.days.remove(model.days.size() - 1);
            }
            return there - k;
        });
    }

    long laws(int k) {
        return plain(() -> {
            refuseIf(k < -1, UNKNOWN);
            told();
            List<Integer> laws = model.laws();
            return k == -1 ? laws.size() : k < laws.size() ? laws.get(k) : NONE;
        });
    }

    long fewest() {
        return plain(() -> {
            told();
            return model.fewest();
        });
    }

    long next(int what) {
        return plain(() -> {
            within(what, 0, 1);
            told();
            int state = NONE;
            int most = -1;
            for (int one = 63; one >= 0; one--) {
                int of = one;
                int all = model.laws().size();
                int inside = (int) model.laws().stream().filter(law -> (law | of) == of).count();
                if (canBe(59).contains(one) && Math.min(inside, all - inside) >= most) {
                    state = one;
                    most = Math.min(inside, all - inside);
                }
            }
            return what == 0 ? state : most;
        });
    }

    // ---- 5 others, odds

    long others(int set, int k, int sheet, int lane, int i, int n) {
        return faulting(() -> {
            refuseIf(k < -1, UNKNOWN);
            sheetOf(sheet);
            within(set, 0, 63);
            int[][] pairs = pairs(sheet, lane, i, n);
            List<Integer> found = model.others(pairs, set);
            return k == -1 ? found.size() : k < found.size() ? found.get(k) : NONE;
        });
    }

    long odds(int set, int sheet, int lane, int i, int n, int which) {
        long answer = faulting(() -> {
            within(set, 0, 63);
            within(which, 0, 1);
            int[][] pairs = pairs(sheet, lane, i, n);
            return model.odds(pairs, set)[which];
        });
        return answer < 0 ? LOST : answer;
    }

    // ---- 6 sheets, parts

    long sheet(int k, int lane, int n) {
        return faulting(() -> {
            sheetOf(k);
            within(lane, 0, 2);
            refuseIf(n > 60, OUTSIDE);
            sheets[k] = row(lane, n);
            return 1;
        });
    }

    long lose(int k) {
        return plain(() -> {
            Object had = sheetOf(k);
            sheets[k] = null;
            return had == null ? 0 : 1;
        });
    }

    long put(int k, int i, int v) {
        return faulting(() -> {
            Object row = sheetOf(k);
            if (row instanceof byte[] bytes) {
                bytes[i] = (byte) v;
            } else if (row instanceof short[] shorts) {
                shorts[i] = (short) v;
            } else {
                ((int[]) row)[i] = v;
            }
            return 1;
        });
    }

    long cell(int k, int i, int lane) {
        int[] found = new int[1];
        long answer = faulting(() -> {
            Object row = sheetOf(k);
            within(lane, 0, 2);
            found[0] = lane == 0 ? ((byte[]) row)[i] : lane == 1 ? ((short[]) row)[i] : ((int[]) row)[i];
            return 1;
        });
        return answer == 1 ? found[0] : LOST;
    }

    long copy(int k, int i, int other, int j, int n) {
        return faulting(() -> {
            Object from = sheetOf(k);
            Object to = sheetOf(other);
            System.arraycopy(from, i, to, j, n);
            return n;
        });
    }

    long tell(int h) {
        return plain(() -> happening(h).told());
    }

    long rhyme(int h) {
        return plain(() -> ((Rhyming) happening(h)).rhymed());
    }

    long as(int h, int kind) {
        return faulting(() -> {
            Happening one = happening(h);
            within(kind, 0, 2);
            Happening as = kind == 0 ? one : kind == 1 ? (Mishap) one : (Caprice) one;
            return as == one ? 1 : 0;
        });
    }

    long trace() {
        return left;
    }

    long fault() {
        return fault;
    }

    long many(int what) {
        return plain(() -> {
            within(what, 0, 3);
            if (model == null) {
                return 0;
            }
            return List.of(happenings.length, model.deeds.size(), model.minutes, model.days.size()).get(what);
        });
    }
}
