import java.util.List;
import java.util.Random;
import java.util.Set;

/** Promises 2 to 19 on many days made by chance (always the same ones), compared with Model. */
public final class ModelTest {
    private static final int TOWNS = 1500;

    public static void main(String[] args) {
        for (int seed = 0; seed < TOWNS; seed++) {
            Random chance = new Random(seed);
            Model model = new Model();
            String text = text(chance, model);
            SameTuesday x = Due.of(text);
            String of = "town " + seed + " " + text + ": ";
            change(chance, model, x);
            rows(of, chance, model, x);
            canBe(of, chance, model, x);
            law(of, chance, model, x);
        }
        Due.end();
    }

    private static String text(Random chance, Model model) {
        StringBuilder text = new StringBuilder("s");
        int happenings = 1 + chance.nextInt(6);
        int deeds = chance.nextInt(happenings == 6 ? 5 : 6);
        // A short span of minutes lets things meet in one minute.
        int span = chance.nextBoolean() ? 60 : 12;
        for (int h = 0; h < happenings; h++) {
            int[] of = {chance.nextInt(3), chance.nextInt(span), need(chance), chance.nextInt(6)};
            model.happenings.add(of);
            text.append(';').append("hmc".charAt(of[0])).append(of[1] / 10).append(of[1] % 10);
            text.append(of[2]).append(of[3]);
        }
        for (int d = 0; d < deeds; d++) {
            int[] of = {need(chance), chance.nextInt(6), chance.nextInt(7), 1 + chance.nextInt(9)};
            model.deeds.add(of);
            text.append(',').append(of[0]).append(of[1]).append(of[2]).append(of[3]);
        }
        return text.toString();
    }

    private static int need(Random chance) {
        return chance.nextInt(3) == 0 ? 6 : chance.nextInt(6);
    }

    private static void change(Random chance, Model model, SameTuesday x) {
        if (chance.nextInt(3) == 0) {
            model.minutes = 1 + chance.nextInt(60);
            Due.is("minutes", x.minutes(model.minutes), 60);
        }
        if (chance.nextInt(3) == 0) {
            int h = chance.nextInt(model.happenings.size());
            int v = chance.nextInt(60);
            Due.is("shift", x.shift(h, v), model.happenings.get(h)[1]);
            model.happenings.get(h)[1] = v;
        }
    }

    private static void rows(String of, Random chance, Model model, SameTuesday x) {
        for (int k = 0; k < 4; k++) {
            int n = model.deeds.isEmpty() ? 0 : chance.nextInt(9);
            int[][] row = new int[n][];
            int[] cells = new int[2 * n];
            int minute = 0;
            for (int p = 0; p < n; p++) {
                minute = chance.nextInt(4) == 0 ? chance.nextInt(60) : Math.min(59, minute + chance.nextInt(8));
                row[p] = new int[] {minute, chance.nextInt(model.deeds.size())};
                cells[2 * p] = minute;
                cells[2 * p + 1] = row[p][1];
            }
            Due.row(x, cells);
            String by = of + "row " + java.util.Arrays.toString(cells) + " ";
            Due.is(by + "first wrong", x.live(1, 2, 0, n, 0), model.firstWrong(row));
            int ends = model.ends(row, 63);
            Due.is(by + "ends", x.live(1, 2, 0, n, 1), ends);
            Due.is(by + "hangs", x.hangs(1, 2, 0, n), model.hangs(row));
            for (int m = chance.nextInt(9); m < 60; m += 1 + chance.nextInt(15)) {
                Due.is(by + "at " + m, x.at(m, 1, 2, 0, n), model.at(m, row, 63));
            }
            int set = chance.nextBoolean() ? ends & chance.nextInt(64) : 1 << chance.nextInt(6);
            int[] odds = model.odds(row, set);
            Due.is(by + "odds of " + set, x.odds(set, 1, 2, 0, n, 0), odds[0]);
            Due.is(by + "odds of " + set, x.odds(set, 1, 2, 0, n, 1), odds[1]);
            others(by, chance, model, x, row, chance.nextBoolean() ? ends : ends ^ 1 << chance.nextInt(6));
        }
    }

    private static void others(String by, Random chance, Model model, SameTuesday x, int[][] row, int set) {
        List<Integer> due = model.others(row, set);
        Due.is(by + "others to " + set, x.others(set, -1, 1, 2, 0, row.length), due.size());
        int[] places = {0, due.size() / 2, due.size() - 1, due.size(), due.size() + chance.nextInt(9)};
        for (int k : places) {
            int want = k >= 0 && k < due.size() ? due.get(k) : k == -1 ? due.size() : Model.NONE;
            Due.is(by + "others to " + set + ", " + k, x.others(set, k, 1, 2, 0, row.length), want);
        }
    }

    private static void canBe(String of, Random chance, Model model, SameTuesday x) {
        List<Set<Integer>> states = model.canBe();
        for (int k = 0; k < 30; k++) {
            int m = chance.nextInt(60);
            Set<Integer> at = states.get(Math.min(m, model.minutes - 1));
            int set = chance.nextInt(64);
            if (chance.nextBoolean()) {
                set = at.iterator().next();
            }
            Due.is(of + "can(" + m + ", " + set + ")", x.can(m, set), at.contains(set) ? 1 : 0);
        }
        for (int k = 0; k < 4; k++) {
            int set = chance.nextInt(64) & chance.nextInt(64);
            Due.is(of + "soonest(" + set + ")", x.soonest(set), model.soonest(set));
            set |= chance.nextInt(64);
            Due.is(of + "bar(" + set + ")", x.bar(set), model.bar(set));
        }
        Due.is(of + "bar(63)", x.bar(63), model.bar(63));
    }

    private static void law(String of, Random chance, Model model, SameTuesday x) {
        int days = chance.nextInt(9);
        for (int k = 0; k <= days; k++) {
            if (k > 0) {
                int set = chance.nextInt(64);
                Due.is(of + "day", x.day(set), k - 1);
                model.days.add(set);
            }
            if (chance.nextBoolean()) {
                String by = of + "days " + model.days + " ";
                List<Integer> laws = model.laws();
                Due.is(by + "laws", x.laws(-1), laws.size());
                int j = chance.nextInt(64);
                Due.is(by + "law " + j, x.laws(j), j < laws.size() ? laws.get(j) : Model.NONE);
                Due.is(by + "fewest", x.fewest(), model.fewest());
                int[] next = model.next();
                Due.is(by + "next", x.next(0), next[0]);
                Due.is(by + "next", x.next(1), next[1]);
            }
        }
    }
}
