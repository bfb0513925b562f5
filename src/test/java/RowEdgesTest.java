/** MINUTES and ROWS at their edges (promises 7 to 9, and what the Terms say of FACTS and DEEDS). */
public final class RowEdgesTest {
    private static final int LEAST = Integer.MIN_VALUE, MOST = Integer.MAX_VALUE;

    public static void main(String[] args) {
        asTheDayBegins();
        needs();
        kindsByTheirOwnFact();
        happeningsByNumbers();
        endsBehindTheHappenings();
        factThenUndoes();
        undoesNone();
        thenOneMayBegin();
        endsAfterLong();
        endsInAMinuteOfTheDay();
        noneGoesOn();
        needIsMetThen();
        firstAndLastMinute();
        dayOfOneMinute();
        dayOfSixtyMinutes();
        daysThatGotShorter();
        rowOfNoPairs();
        rowOfTwentyPairs();
        rowOfMorePairs();
        minutesThatAreNotAbove();
        leftOutOneAfterAnother();
        leftOutDoesNotGoOn();
        leftOutByItsMinute();
        pairByPair();
        minutesOfPairs();
        whatIsAsked();
        at();
        atTheLastOne();
        atInTheMidst();
        hangsOnNoneAndAll();
        hangsAlone();
        hangsByTheRow();
        Due.end();
    }

    private static void asTheDayBegins() {
        Due.sentence(0, "FACTS 0 .. 5 are so, or not; none is as the day begins.");
        for (int fact = 0; fact < 6; fact++) {
            int other = (fact + 1) % 6;
            SameTuesday x = Due.of("s;h00" + fact + other + ",6" + fact + "61");
            Due.is("need " + fact + " in the first minute", Due.at(x, 0), 0);
            Due.is("it never comes about", Due.ends(x), 0);
            Due.is("can be", x.can(0, 0), 1);
            for (int set = 1; set < 64; set++) {
                Due.is("can(0, " + set + ")", x.can(0, set), 0);
            }
        }
    }

    private static void needs() {
        Due.sentence(0, "NEED 6 is always met, another one if that FACT is so; UNDOES 6 is none.");
        for (int need = 0; need < 7; need++) {
            for (int so = 0; so < 6; so++) {
                int fact = so == 5 || need == 5 ? 4 : 5;
                fact = fact == 4 && (so == 4 || need == 4) ? 3 : fact;
                SameTuesday x = Due.of("s;h006" + so + ";h01" + need + fact + "," + need + fact + "61");
                boolean met = need == 6 || need == so;
                Due.is("fact " + so + ", a happening's need " + need, Due.ends(x), 1 << so | (met ? 1 << fact : 0));
                Due.is("fact " + so + ", a deed's need " + need, Due.wrong(x, 5, 0), met ? -9 : 0);
            }
        }
    }

    private static void kindsByTheirOwnFact() {
        Due.sentence(0, "A HAPPENING comes about, if its NEED is met: its FACT becomes so.");
        Due.is("a happening of what is not so", Due.ends(Due.of("s;h0560")), 1);
        Due.is("a happening of what is so", Due.ends(Due.of("s;h0560;h0660")), 1);
        Due.is("a happening by its own fact", Due.ends(Due.of("s;h0500")), 0);
        Due.is("a happening by another one", Due.ends(Due.of("s;h0561;h0610")), 3);
        Due.is("its need is not met", Due.ends(Due.of("s;h0561;h0620")), 2);
        Due.sentence(0, "A MISHAP likewise: its FACT becomes not so.");
        Due.is("a mishap of what is not so", Due.ends(Due.of("s;m0560")), 0);
        Due.is("a mishap of what is so", Due.ends(Due.of("s;h0560;m0660")), 0);
        Due.is("a mishap by its own fact", Due.ends(Due.of("s;h0560;m0600")), 0);
        Due.is("a mishap, its need is not met", Due.ends(Due.of("s;h0560;m0610")), 1);
        Due.sentence(0, "A CAPRICE: its FACT becomes what it was not.");
        Due.is("a caprice of what is not so", Due.ends(Due.of("s;c0565")), 32);
        Due.is("a caprice of what is so", Due.ends(Due.of("s;h0565;c0665")), 0);
        Due.is("two caprices in one minute", Due.ends(Due.of("s;c0565;c0565")), 0);
        Due.is("a caprice by its own fact, not so", Due.ends(Due.of("s;c0555")), 0);
        Due.is("a caprice by its own fact, so", Due.ends(Due.of("s;h0565;c0655")), 0);
        Due.is("a caprice, its need is not met", Due.ends(Due.of("s;h0565;c0605")), 32);
    }

    private static void happeningsByNumbers() {
        Due.sentence(0, "HAPPENINGS of that MINUTE by numbers");
        Due.is("rising needs", Due.ends(Due.of("s;h0760;h0701;h0712;h0723;h0734;h0745")), 63);
        Due.is("falling needs", Due.ends(Due.of("s;h0745;h0734;h0723;h0712;h0701;h0760")), 1);
        Due.is("so, then not so", Due.ends(Due.of("s;h0760;m0760")), 0);
        Due.is("not so, then so", Due.ends(Due.of("s;m0760;h0760")), 1);
        Due.is("a later number of a sooner minute", Due.ends(Due.of("s;h0701;h0660")), 3);
    }

    private static void endsBehindTheHappenings() {
        Due.sentence(0, "a DEED that ends in it (its FACT becomes so, then the one it UNDOES not so)");
        SameTuesday x = Due.of("s;m0560;h0501,6061");
        Due.is("ends in the mishap's minute", Due.ends(x, 4, 0), 1);
        Due.is("ends a minute sooner", Due.ends(x, 3, 0), 0);
        x = Due.of("s;h0501,6061");
        Due.is("the happening does not see it", Due.ends(x, 4, 0), 1);
        Due.is("a minute sooner it does", Due.ends(x, 3, 0), 3);
    }

    private static void factThenUndoes() {
        Due.sentence(0, "its FACT becomes so, then the one it UNDOES not so");
        for (int fact = 0; fact < 6; fact++) {
            for (int undoes = 0; undoes < 6; undoes++) {
                SameTuesday x = Due.of("s;h006" + undoes + ",6" + fact + undoes + "2");
                Due.is("a minute ahead", Due.at(x, 6, 5, 0), 1 << undoes);
                Due.is("does " + fact + ", undoes " + undoes, Due.at(x, 7, 5, 0), fact == undoes ? 0 : 1 << fact);
            }
        }
    }

    private static void undoesNone() {
        Due.sentence(0, "UNDOES 6 is none");
        SameTuesday x = Due.of("s;h0060;h0061;h0062;h0063;h0064,6561");
        Due.is("all stay", Due.ends(x, 5, 0), 63);
    }

    private static void thenOneMayBegin() {
        Due.sentence(0, "then one may begin");
        SameTuesday x = Due.of("s;h0560;m0961,0261,6163,1361");
        Due.is("behind the happening that meets its need", Due.wrong(x, 5, 0), -9);
        Due.is("a minute sooner", Due.wrong(x, 4, 0), 0);
        Due.is("behind the deed that meets its need", Due.wrong(x, 2, 1, 5, 2), -9);
        Due.is("behind the mishap that takes it away", Due.wrong(x, 2, 1, 9, 2), 1);
        Due.is("ahead of it", Due.wrong(x, 2, 1, 8, 2), -9);
        x = Due.of("s;h0060,6105,1261,0361");
        Due.is("behind the deed that undoes its need", Due.wrong(x, 2, 0, 7, 2), 1);
    }

    private static void endsAfterLong() {
        Due.sentence(0, "A DEED begun in a MINUTE b ends in b and LONG.");
        for (int lasts = 1; lasts <= 9; lasts++) {
            SameTuesday x = Due.of("s;h5965,616" + lasts);
            for (int b : new int[] {0, 1, 20}) {
                Due.is("long " + lasts + " from " + b + ", a minute ahead", Due.at(x, b + lasts - 1, b, 0), 0);
                Due.is("long " + lasts + " from " + b, Due.at(x, b + lasts, b, 0), 2);
            }
            Due.is("soonest, long " + lasts, x.soonest(2), lasts);
        }
    }

    private static void endsInAMinuteOfTheDay() {
        Due.sentence(0, "it ends in a MINUTE of the day");
        for (int lasts = 1; lasts <= 9; lasts++) {
            for (int v : new int[] {1, 2, 5, 9, 10, 11, 59, 60}) {
                SameTuesday x = Due.of("s;h5965,616" + lasts);
                x.minutes(v);
                int late = v - lasts;
                int rest = v == 60 ? 32 : 0;
                if (late >= 1) {
                    Due.is("long " + lasts + " of " + v + ", just in it", Due.wrong(x, late - 1, 0), -9);
                    Due.is("it ends so", Due.ends(x, late - 1, 0), rest | 2);
                }
                if (late >= 0) {
                    Due.is("long " + lasts + " of " + v + ", behind it", Due.wrong(x, late, 0), 0);
                    Due.is("it is left out", Due.ends(x, late, 0), rest);
                }
                Due.is("long " + lasts + " of " + v + ", in the last one", Due.wrong(x, v - 1, 0), 0);
                Due.is("soonest", x.soonest(2), late >= 1 ? lasts : -9);
            }
        }
    }

    private static void noneGoesOn() {
        Due.sentence(0, "It can be begun, if none goes on, its NEED is met then");
        for (int lasts = 1; lasts <= 9; lasts++) {
            SameTuesday x = Due.of("s;h5965,616" + lasts + ",6261");
            for (int between = 1; between < lasts; between++) {
                Due.is("long " + lasts + ", " + between + " later", Due.wrong(x, 5, 0, 5 + between, 1), 1);
            }
            Due.is("long " + lasts + ", as it ends", Due.wrong(x, 5, 0, 5 + lasts, 1), -9);
            Due.is("both are done", Due.ends(x, 5, 0, 5 + lasts, 1), 38);
        }
        SameTuesday x = Due.of("s;h5965,6169");
        Due.is("the same deed while it goes on", Due.wrong(x, 5, 0, 13, 0), 1);
        Due.is("the same deed again", Due.wrong(x, 5, 0, 14, 0), -9);
    }

    private static void needIsMetThen() {
        Due.sentence(0, "its NEED is met then");
        SameTuesday x = Due.of("s;h1060;m1260,0163");
        Due.is("not yet", Due.wrong(x, 9, 0), 0);
        Due.is("just so", Due.wrong(x, 10, 0), -9);
        Due.is("as it goes on, its need may be gone", Due.ends(x, 11, 0), 2);
        Due.is("just gone", Due.wrong(x, 12, 0), 0);
    }

    private static void firstAndLastMinute() {
        Due.sentence(0, "MINUTES 0 on, as many as the day has.");
        SameTuesday x = Due.of("s;h0060;h5961,0269");
        Due.is("as the first one ends", Due.at(x, 0), 1);
        Due.is("as the last but one ends", Due.at(x, 58), 1);
        Due.is("as the last one ends", Due.at(x, 59), 3);
        Due.is("behind it", Due.ends(x), 3);
        Due.is("a deed begun in the first one", Due.at(x, 9, 0, 0), 5);
        Due.is("a deed that ends in the last one", Due.ends(x, 50, 0), 7);
        Due.is("not sooner", Due.at(x, 58, 50, 0), 1);
        Due.is("a deed begun in the last one", Due.wrong(x, 59, 0), 0);
    }

    private static void dayOfOneMinute() {
        Due.sentence(5, "The day has v MINUTES (1 .. 60): how many it had.");
        SameTuesday x = Due.of("s;h0060;c0061;h0162,6361");
        x.minutes(1);
        Due.is("its happenings", Due.ends(x), 3);
        for (int m : new int[] {0, 1, 59}) {
            Due.is("at " + m, Due.at(x, m), 3);
            Due.is("can " + m, x.can(m, 3), 1);
            Due.is("can't " + m, x.can(m, 7), 0);
        }
        Due.is("no deed can be begun", Due.wrong(x, 0, 0), 0);
        Due.is("nor in a minute that it has not", Due.wrong(x, 1, 0), 0);
        Due.is("nor in the last of all", Due.wrong(x, 59, 0), 0);
        Due.is("they are left out", Due.ends(x, 0, 0, 1, 0, 59, 0), 3);
        Due.is("hangs", Due.hangs(x), 3);
        Due.is("soonest", x.soonest(3), 0);
        Due.is("never", x.soonest(4), -9);
        Due.is("never by a deed", x.soonest(8), -9);
        Due.is("others", Due.others(x, 3, -1), 0);
        Due.is("next", x.next(0), 3);
        Due.is("odds", Due.odds(x, 3), 1004);
    }

    private static void dayOfSixtyMinutes() {
        Due.sentence(5, "The day has v MINUTES (1 .. 60): how many it had.");
        SameTuesday x = Due.of("s;h5960,6361");
        x.minutes(59);
        Due.is("59 do not reach it", Due.ends(x), 0);
        Due.is("a deed in 58", Due.wrong(x, 58, 0), 0);
        Due.is("had", x.minutes(60), 59);
        Due.is("60 do", Due.ends(x), 1);
        Due.is("a deed in 58", Due.ends(x, 58, 0), 9);
    }

    private static void daysThatGotShorter() {
        Due.sentence(0, "MINUTES 0 on, as many as the day has.");
        SameTuesday x = Due.of("s;h1960;h2061;m2160,6263");
        int[][] due = {{22, 2}, {21, 3}, {20, 1}, {19, 0}, {60, 2}};
        for (int[] of : due) {
            x.minutes(of[0]);
            Due.is("ends, " + of[0] + " minutes", Due.ends(x), of[1]);
            Due.is("ends, " + of[0] + " minutes, a deed", Due.ends(x, of[0] - 4, 0), of[1] | 4);
            Due.is("wrong, " + of[0] + " minutes", Due.wrong(x, of[0] - 3, 0), 0);
        }
    }

    private static void rowOfNoPairs() {
        Due.sentence(7, "A ROW of n pairs, that are cells of a SHEET from i on (2 n)");
        SameTuesday x = Due.of("s;h0560;h0661,6261");
        Due.is("wrong", Due.wrong(x), -9);
        Due.is("ends", Due.ends(x), 3);
        Due.is("at", Due.at(x, 5), 1);
        Due.is("hangs", Due.hangs(x), 3);
        Due.row(x, 7, 0, 99, 99);
        for (int i = 0; i <= 4; i++) {
            Due.is("wrong, from " + i, x.live(1, 2, i, 0, 0), -9);
            Due.is("ends, from " + i, x.live(1, 2, i, 0, 1), 3);
        }
        Due.is("one pair is lived ahead", x.live(1, 2, 0, 1, 1), 7);
        Due.is("no pair of it is left", x.live(1, 2, 0, 0, 1), 3);
    }

    /** Pairs in 0, 2, 4 ..: each makes its fact so and undoes that of the one ahead. */
    private static int[] twenty() {
        int[] cells = new int[40];
        for (int p = 0; p < 20; p++) {
            cells[2 * p] = 2 * p;
            cells[2 * p + 1] = p % 2;
        }
        return cells;
    }

    private static void rowOfTwentyPairs() {
        Due.sentence(7, "OUTSIDE: lane, n (0 .. 20), what");
        SameTuesday x = Due.of("s;h5965,6101,6011");
        int[] cells = twenty();
        Due.is("each can be", Due.wrong(x, cells), -9);
        Due.is("the last one is done", Due.ends(x, cells), 33);
        Due.is("at 38, ahead of its end", Due.at(x, 38, cells), 2);
        Due.is("at 39", Due.at(x, 39, cells), 1);
        Due.is("hangs", Due.hangs(x, cells), 1);
        x = Due.of("s;h5965,6101,6011");
        Due.is("others, all 20 are lived", Due.others(x, 33, 0, cells), 0);
        Due.is("odds", Due.odds(x, 1, cells), 1001);
        cells[39] = 2;
        Due.is("the last one is no deed", Due.ends(x, cells), -1);
        cells[39] = 1;
        x = Due.of("s;h5965,6101,6011");
        cells[38] = 36;
        Due.is("the last one is wrong", Due.wrong(x, cells), 19);
        Due.is("it is left out", Due.ends(x, cells), 34);
        cells[38] = 60;
        Due.is("the last one's minute is none", Due.wrong(x, cells), -2);
    }

    private static void rowOfMorePairs() {
        Due.sentence(7, "OUTSIDE: lane, n (0 .. 20), what");
        SameTuesday x = Due.of("s;h5965,6101,6011");
        x.sheet(1, 0, 60);
        for (int p = 0; p < 30; p++) {
            x.put(1, 2 * p, p);
        }
        for (int n : new int[] {-1, 21, 22, 30, 31, LEAST, MOST}) {
            Due.fault("live, n " + n, x, x.live(1, 0, 0, n, 0), -2, 0);
            Due.fault("at, n " + n, x, x.at(0, 1, 0, 0, n), -2, 0);
            Due.fault("hangs, n " + n, x, x.hangs(1, 0, 0, n), -2, 0);
            Due.fault("others, n " + n, x, x.others(0, -1, 1, 0, 0, n), -2, 0);
            Due.fault("odds, n " + n, x, x.odds(0, 1, 0, 0, n, 0), SameTuesday.LOST, 0);
        }
        Due.is("20 of them", x.live(1, 0, 0, 20, 0), -9);
        Due.is("the last 20 of them", x.live(1, 0, 20, 20, 0), -9);
        Due.is("the last 10 of them", x.live(1, 0, 40, 10, 0), -9);
    }

    private static void minutesThatAreNotAbove() {
        Due.sentence(0, "its MINUTE is not above that of each pair ahead of it, too");
        SameTuesday x = Due.of("s;h5965,6161,6261,6361");
        Due.is("above", Due.wrong(x, 20, 0, 21, 1, 22, 2), -9);
        Due.is("as great", Due.wrong(x, 20, 0, 20, 1), 1);
        Due.is("as great, it is left out", Due.ends(x, 20, 0, 20, 1), 34);
        Due.is("below", Due.wrong(x, 20, 0, 19, 1), 1);
        Due.is("below, it is left out", Due.ends(x, 20, 0, 10, 1), 34);
        Due.is("below one that is not the last ahead", Due.ends(x, 20, 0, 10, 1, 15, 2), 34);
        Due.is("as great as one that is not the last ahead", Due.ends(x, 20, 0, 10, 1, 20, 2), 34);
        Due.is("above all of them", Due.ends(x, 20, 0, 10, 1, 21, 2), 42);
        Due.is("falling", Due.wrong(x, 30, 0, 20, 1, 10, 2), 1);
        Due.is("falling, all but the first are left out", Due.ends(x, 30, 0, 20, 1, 10, 2), 34);
        Due.is("all in minute 0", Due.ends(x, 0, 0, 0, 1, 0, 2), 34);
        Due.is("the third is the first that is not above", Due.wrong(x, 5, 0, 30, 1, 29, 2), 2);
        Due.is("as great as one that is left out", Due.ends(x, 59, 0, 20, 1, 59, 2, 21, 2), 32);
        x = Due.of("s;h5965,0161,6261");
        Due.is("as great as one ahead, whose need is not met", Due.ends(x, 20, 0, 20, 1), 32);
        Due.is("below one ahead, whose need is not met", Due.ends(x, 20, 0, 19, 1), 32);
    }

    private static void leftOutOneAfterAnother() {
        Due.sentence(0, "if all pairs that could not be are left out, one after another");
        SameTuesday x = Due.of("s;h5965,6061,0161,1261,2361");
        Due.is("the first of a chain can't be", Due.ends(x, 1, 1, 3, 2, 5, 3), 32);
        Due.is("the second can't be", Due.ends(x, 1, 0, 3, 2, 5, 3), 33);
        Due.is("nor can the fourth by the third", Due.ends(x, 1, 0, 3, 1, 5, 3), 35);
        Due.is("all can", Due.ends(x, 1, 0, 3, 1, 5, 2, 7, 3), 47);
        Due.is("one behind them still can", Due.ends(x, 1, 3, 3, 2, 5, 0), 33);
        Due.is("the first wrong one is told", Due.wrong(x, 1, 0, 3, 2, 5, 3), 1);
    }

    private static void leftOutDoesNotGoOn() {
        Due.sentence(0, "a DEED left out does not go on");
        SameTuesday x = Due.of("s;h5965,0169,6261");
        Due.is("its need is not met, another one in its time can be", Due.ends(x, 5, 0, 6, 1), 36);
        x = Due.of("s;h5965,6169,6269,6361");
        Due.is("one that comes while one goes on", Due.ends(x, 5, 0, 13, 1, 14, 2), 42);
        Due.is("its end does not come about", Due.at(x, 22, 5, 0, 13, 1), 2);
        Due.is("behind the day, another one can be", Due.ends(x, 51, 1, 52, 2), 40);
    }

    private static void leftOutByItsMinute() {
        Due.sentence(0, "the first pair that could not be");
        SameTuesday x = Due.of("s;h5965,6169,6261");
        x.minutes(30);
        Due.is("a minute that the day has not", Due.wrong(x, 5, 1, 30, 1), 1);
        Due.is("the last of all minutes", Due.wrong(x, 59, 1), 0);
        Due.is("they are left out", Due.ends(x, 5, 1, 30, 1, 59, 0), 4);
        Due.is("none is wrong", Due.wrong(x, 5, 1, 28, 1), -9);
        Due.is("the first of several", Due.wrong(x, 21, 0, 29, 1, 30, 1), 0);
    }

    private static void pairByPair() {
        Due.sentence(7, "then pair by pair OUTSIDE: it is no MINUTE (0 .. 59); UNKNOWN: it is no DEED");
        SameTuesday x = Due.of("s;h5965,6169,6261");
        Due.is("no minute, no deed", Due.wrong(x, 60, 2), -2);
        Due.is("no deed, then no minute", Due.wrong(x, 0, 2, 60, 0), -1);
        Due.is("no minute, then no deed", Due.wrong(x, 60, 0, 0, 2), -2);
        Due.is("a pair, then no deed", Due.ends(x, 0, 0, 9, 2), -1);
        Due.is("a pair, then no minute", Due.ends(x, 0, 0, -1, 2), -2);
        Due.is("one that could not be, then no deed", Due.wrong(x, 59, 0, 5, 2), -1);
        Due.is("one that could not be, then no minute", Due.wrong(x, 59, 0, 60, 0), -2);
        Due.is("at a minute ahead of it", Due.at(x, 0, 0, 0, 9, 2), -1);
        Due.is("hangs", Due.hangs(x, 0, 0, 9, 2), -1);
        Due.is("others", Due.others(x, 0, -1, 0, 0, 60, 0), -2);
        Due.is("a cell behind the row", x.live(1, 2, 0, 1, 0), -9);
        x = Due.of("s;h5965");
        Due.is("there are no deeds", Due.wrong(x, 0, 0), -1);
    }

    private static void minutesOfPairs() {
        Due.sentence(7, "OUTSIDE: it is no MINUTE (0 .. 59); UNKNOWN: it is no DEED");
        SameTuesday x = Due.of("s;h5965,6169,6261");
        for (int m : new int[] {-1, 60, 61, LEAST, MOST}) {
            Due.is("minute " + m, Due.wrong(x, m, 0), -2);
        }
        for (int d : new int[] {-1, 2, 5, LEAST, MOST}) {
            Due.is("deed " + d, Due.wrong(x, 0, d), -1);
        }
        Due.is("minute 0", Due.wrong(x, 0, 1), -9);
        Due.is("minute 59", Due.wrong(x, 59, 1), 0);
        x.minutes(1);
        Due.is("minute 59 of a day of 1", Due.wrong(x, 59, 1), 0);
        Due.is("minute 60 of a day of 1", Due.wrong(x, 60, 1), -2);
    }

    private static void whatIsAsked() {
        Due.sentence(7, "FIRST WRONG (what 0; NONE), ENDS, as a set (1)");
        SameTuesday x = Due.of("s;h5960,6169,6261");
        int n = Due.row(x, 0, 0, 5, 1, 9, 1);
        Due.is("what 0", x.live(1, 2, 0, n, 0), 1);
        Due.is("what 1", x.live(1, 2, 0, n, 1), 7);
        Due.is("what 0, one pair", x.live(1, 2, 0, 1, 0), -9);
        for (int what : new int[] {-1, 2, LEAST, MOST}) {
            Due.fault("what " + what, x, x.live(1, 2, 0, n, what), -2, 0);
        }
    }

    private static void at() {
        Due.sentence(8, "As live() (OUTSIDE: m (0 .. 59) in the place of what).");
        SameTuesday x = Due.of("s;h0060;h5961,6263");
        int n = Due.row(x, 0, 0);
        Due.is("m 0", x.at(0, 1, 2, 0, n), 1);
        Due.is("m 2", x.at(2, 1, 2, 0, n), 1);
        Due.is("m 3", x.at(3, 1, 2, 0, n), 5);
        Due.is("m 58", x.at(58, 1, 2, 0, n), 5);
        Due.is("m 59", x.at(59, 1, 2, 0, n), 7);
        for (int m : new int[] {-1, 60, LEAST, MOST}) {
            Due.fault("m " + m, x, x.at(m, 1, 2, 0, n), -2, 0);
        }
        x.minutes(5);
        Due.fault("m 60 of a shorter day", x, x.at(60, 1, 2, 0, n), -2, 0);
        Due.sentence(8, "by such a ROW, as ENDS, as a set");
        Due.is("pairs that could not be are left out", Due.at(x, 4, 0, 0, 1, 0, 2, 0), 5);
    }

    private static void atTheLastOne() {
        Due.sentence(8, "(the last one of the day, if it has not so many)");
        SameTuesday x = Due.of("s;h0060;h0961;h1062,6363");
        x.minutes(10);
        Due.is("8", Due.at(x, 8, 6, 0), 1);
        Due.is("9, its last one", Due.at(x, 9, 6, 0), 11);
        Due.is("10", Due.at(x, 10, 6, 0), 11);
        Due.is("59", Due.at(x, 59, 6, 0), 11);
        Due.is("a deed that would end in 10", Due.at(x, 59, 7, 0), 3);
        x.minutes(60);
        Due.is("10 of a longer day", Due.at(x, 10, 7, 0), 15);
    }

    private static void atInTheMidst() {
        Due.sentence(8, "by such a ROW, as ENDS, as a set");
        SameTuesday x = Due.of("s;h5965,6169,6261");
        Due.is("as his deed goes on", Due.at(x, 12, 5, 0), 0);
        Due.is("it does not go on in another day", Due.ends(x), 32);
        Due.is("as his deed goes on", Due.at(x, 12, 5, 0), 0);
        Due.is("nor bars a deed of it", Due.wrong(x, 0, 1), -9);
        Due.is("as his deed goes on", Due.at(x, 12, 5, 0), 0);
        Due.is("nor a deed of the other one", Due.others(x, 36, -1), 59);
        Due.is("a wrong pair behind the minute asked", Due.at(x, 3, 2, 1, 55, 0), 4);
        Due.is("none is wrong in another row", Due.wrong(x, 2, 1), -9);
    }

    private static void hangsOnNoneAndAll() {
        Due.sentence(0, "HAPPENINGS without each of which (alone) it ENDS otherwise, as a set");
        SameTuesday x = Due.of("s;h0560;h0661;h0762;h0863;h0964;h1065");
        Due.is("all six", Due.hangs(x), 63);
        x.minutes(10);
        Due.is("but the one behind the day", Due.hangs(x), 31);
        x.minutes(5);
        Due.is("none", Due.hangs(x), 0);
        Due.is("by its own fact, none", Due.hangs(Due.of("s;h0500;m0660")), 0);
        Due.is("a chain", Due.hangs(Due.of("s;h0560;h0601;h0712")), 7);
    }

    private static void hangsAlone() {
        Due.sentence(0, "HAPPENINGS without each of which (alone) it ENDS otherwise, as a set");
        Due.is("each of two does it", Due.hangs(Due.of("s;h0560;h0660;h0761")), 4);
        Due.is("one is undone", Due.hangs(Due.of("s;h0560;m0660")), 2);
        Due.is("both caprices", Due.hangs(Due.of("s;c0560;c0660")), 3);
        Due.is("a mishap that keeps another from it", Due.hangs(Due.of("s;h0560;m0660;h0701")), 2);
    }

    private static void hangsByTheRow() {
        Due.sentence(9, "HANGS of such a ROW, as a set. As live(), without what.");
        SameTuesday x = Due.of("s;h0560;h2061,0269,6361");
        Due.is("without the row", Due.hangs(x), 3);
        // Without happening 0 his first deed is left out, and the second one can be.
        Due.is("a pair that can be then", Due.hangs(x, 5, 0, 9, 1), 3);
        Due.is("ends", Due.ends(x, 5, 0, 9, 1), 7);
        x = Due.of("s;h0560;m0660;h2061,0262,6062");
        Due.is("his deed hangs on the first", Due.hangs(x, 5, 0), 1 | 2 | 4);
        Due.is("his deed does what the first does", Due.hangs(x, 7, 1), 4);
    }
}
