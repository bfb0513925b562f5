import java.util.ArrayList;
import java.util.List;
import java.util.Random;

/**
 * Calls by chance (always the same ones), with numbers from all over: none throws, and a refused one
 * changes nothing: an object that is spared the refused calls answers as one that is not.
 */
public final class ChanceTest {
    private static final int RUNS = 4000, CALLS = 130;
    private static final int[] EDGES = {-2, -1, 0, 1, 2, 3, 4, 5, 6, 7, 19, 20, 21, 59, 60, 61, 63, 64,
        Integer.MAX_VALUE, Integer.MIN_VALUE, Integer.MAX_VALUE - 1, 1 << 30};
    private static final String TEXT = "s;h0360;m1001;c1502;h2023,6163,1341,2502";

    public static void main(String[] args) {
        for (int seed = 0; seed < RUNS; seed++) {
            Random chance = new Random(seed);
            SameTuesday x = start(chance.nextInt(4) > 0);
            List<int[]> taken = new ArrayList<>();
            for (int k = 0; k < CALLS; k++) {
                int[] call = call(chance);
                if (!isRefused(call[0], answer(x, call))) {
                    taken.add(call);
                }
            }
            SameTuesday spared = start(new Random(seed).nextInt(4) > 0);
            for (int[] call : taken) {
                Due.holds("run " + seed + ": not refused then", !isRefused(call[0], answer(spared, call)));
            }
            Due.holds("run " + seed + ": " + told(x) + " and " + told(spared), told(x).equals(told(spared)));
        }
        Due.end();
    }

    private static SameTuesday start(boolean told) {
        return told ? Due.of(TEXT) : new SameTuesday();
    }

    private static int[] call(Random chance) {
        int[] call = new int[7];
        call[0] = chance.nextInt(29);
        for (int i = 1; i < call.length; i++) {
            call[i] = chance.nextInt(3) > 0 ? chance.nextInt(4) : EDGES[chance.nextInt(EDGES.length)];
        }
        return call;
    }

    private static boolean isRefused(int call, long answer) {
        // The trace may be any number; an int's cell, too, but not LOST.
        return call == 26 || call == 21 ? answer == SameTuesday.LOST : answer < 0 && answer != SameTuesday.NONE;
    }

    private static long answer(SameTuesday x, int[] c) {
        switch (c[0]) {
            case 0: return x.tuesday(c[1], c[2], c[3], c[4]);
            case 1: return x.ofHappening(c[1], c[2]);
            case 2: return x.ofDeed(c[1], c[2]);
            case 3: return x.minutes(c[1]);
            case 4: return x.shift(c[1], c[2]);
            case 5: return x.live(c[1], c[2], c[3], c[4], c[5]);
            case 6: return x.at(c[1], c[2], c[3], c[4], c[5]);
            case 7: return x.hangs(c[1], c[2], c[3], c[4]);
            case 8: return x.can(c[1], c[2]);
            case 9: return x.soonest(c[1]);
            case 10: return x.bar(c[1]);
            case 11: return x.day(c[1]);
            case 12: return x.forget(c[1]);
            case 13: return x.laws(c[1]);
            case 14: return x.fewest();
            case 15: return x.next(c[1]);
            case 16: return x.others(c[1], c[2], c[3], c[4], c[5], c[6]);
            case 17: return x.odds(c[1], c[2], c[3], c[4], c[5], c[6]);
            case 18: return x.sheet(c[1], c[2], c[3]);
            case 19: return x.lose(c[1]);
            case 20: return x.put(c[1], c[2], c[3]);
            case 21: return x.cell(c[1], c[2], c[3]);
            case 22: return x.copy(c[1], c[2], c[3], c[4], c[5]);
            case 23: return x.tell(c[1]);
            case 24: return x.rhyme(c[1]);
            case 25: return x.as(c[1], c[2]);
            case 26: return x.trace();
            case 27: return x.fault();
            default: return x.many(c[1]);
        }
    }

    /** What an object answers of itself, but for the fault. */
    private static String told(SameTuesday x) {
        StringBuilder told = new StringBuilder();
        for (int what = 0; what < 4; what++) {
            told.append(x.many(what)).append(' ');
            for (int h = 0; h < x.many(0); h++) {
                told.append(x.ofHappening(h, what)).append(' ');
            }
            for (int d = 0; d < x.many(1); d++) {
                told.append(x.ofDeed(d, what)).append(' ');
            }
        }
        told.append(x.trace()).append(' ').append(x.laws(-1)).append(' ').append(x.laws(9));
        told.append(' ').append(x.next(0)).append(' ').append(x.bar(63)).append(' ').append(x.soonest(9));
        for (int k = 0; k < 4; k++) {
            for (int lane = 0; lane < 3; lane++) {
                told.append(" /");
                for (int i = 0; i < 9; i++) {
                    told.append(' ').append(x.cell(k, i, lane) == SameTuesday.LOST ? "-" : "" + x.cell(k, i, lane));
                }
            }
        }
        return told.toString();
    }
}
