/** Promises 7 to 9: days lived by rows of deeds. */
public final class LivedTest {
    public static void main(String[] args) {
        orderWithinAMinute();
        kinds();
        whenADeedCanBegin();
        whenADeedEnds();
        firstWrong();
        pairsThatAreLeftOut();
        shorterDays();
        factsAtMinutes();
        hangs();
        twentyPairs();
        rowsInTheMidst();
        lanes();
        refusals();
        refusedRowsChangeNothing();
        Due.end();
    }

    private static void orderWithinAMinute() {
        SameTuesday x = Due.of("s;h0560;h0501");
        Due.is("a happening sees those ahead of it in its minute", Due.ends(x), 3);
        x = Due.of("s;h0501;h0560");
        Due.is("and none behind it", Due.ends(x), 1);
        x = Due.of("s;m0560,6051");
        Due.is("a deed ends behind the happenings", Due.ends(x, 4, 0), 1);
        x = Due.of("s;h0502,6061");
        Due.is("so that they don't see it", Due.ends(x, 4, 0), 1);
        Due.is("but a minute sooner they do", Due.ends(x, 3, 0), 5);
        x = Due.of("s;h0560,0161");
        Due.is("a deed begins behind the happenings", Due.wrong(x, 5, 0), -9);
        Due.is("a minute sooner it can't", Due.wrong(x, 4, 0), 0);
        x = Due.of("s;h5965,6062,0161");
        Due.is("a deed begins behind the end of one", Due.wrong(x, 3, 0, 5, 1), -9);
        Due.is("a minute sooner it can't", Due.wrong(x, 3, 0, 4, 1), 1);
        x = Due.of("s;h5965,6001");
        Due.is("what it undoes is undone behind its fact", Due.ends(x, 5, 0), 32);
        Due.is("so that it is never so", Due.at(x, 6, 5, 0), 0);
    }

    private static void kinds() {
        SameTuesday x = Due.of("s;h0560;h0960;m1161;m2060");
        Due.is("at 5", Due.at(x, 5), 1);
        Due.is("so stays so", Due.at(x, 9), 1);
        Due.is("not so stays not so", Due.at(x, 11), 1);
        Due.is("not so any more", Due.at(x, 20), 0);
        x = Due.of("s;c0560;c0960;c1105;c1260;c1305");
        Due.is("it becomes so", Due.at(x, 5), 1);
        Due.is("it becomes not so", Due.at(x, 9), 0);
        Due.is("its need is not met", Due.at(x, 11), 0);
        Due.is("again", Due.at(x, 12), 1);
        Due.is("its need is met", Due.at(x, 13), 33);
        x = Due.of("s;h0010;m0160;m0210;h0361;h0410;m0601");
        Due.is("a need that is not met", Due.at(x, 0), 0);
        Due.is("need 1 is met then", Due.at(x, 4), 3);
        Due.is("a mishap with its need met", Due.at(x, 6), 1);
    }

    private static void whenADeedCanBegin() {
        SameTuesday x = Due.of("s;h1060,6163,0261,6369");
        Due.is("always", Due.wrong(x, 0, 0), -9);
        Due.is("not yet", Due.wrong(x, 9, 1), 0);
        Due.is("then", Due.wrong(x, 10, 1), -9);
        Due.is("one goes on", Due.wrong(x, 10, 0, 12, 1), 1);
        Due.is("it has ended", Due.wrong(x, 10, 0, 13, 1), -9);
        Due.is("in the same minute", Due.wrong(x, 10, 0, 10, 1), 1);
        Due.is("ends in the last minute", Due.wrong(x, 56, 0), -9);
        Due.is("ends behind it", Due.wrong(x, 57, 0), 0);
        Due.is("ends in the last minute", Due.wrong(x, 58, 1), -9);
        Due.is("ends behind it", Due.wrong(x, 59, 1), 0);
        Due.is("nine minutes", Due.wrong(x, 50, 2), -9);
        Due.is("nine minutes", Due.wrong(x, 51, 2), 0);
    }

    private static void whenADeedEnds() {
        SameTuesday x = Due.of("s;h5960,6163,6219,6361");
        Due.is("a minute ahead", Due.at(x, 2, 0, 0), 0);
        Due.is("in 0 and 3", Due.at(x, 3, 0, 0), 2);
        Due.is("a minute ahead", Due.at(x, 13, 0, 0, 5, 1), 2);
        Due.is("its fact, and not what it undoes", Due.at(x, 14, 0, 0, 5, 1), 4);
        Due.is("in the last minute, and the happening", Due.ends(x, 58, 2), 9);
        Due.is("in 7 and 1", Due.at(x, 8, 7, 2), 8);
    }

    private static void firstWrong() {
        SameTuesday x = Due.of("s;h1060,6163,0261");
        Due.is("no pairs", Due.wrong(x), -9);
        Due.is("the first one", Due.wrong(x, 57, 0, 58, 0), 0);
        Due.is("the second one", Due.wrong(x, 0, 0, 2, 0, 3, 0), 1);
        Due.is("the third one", Due.wrong(x, 0, 0, 3, 0, 6, 1), 2);
        Due.is("as late", Due.wrong(x, 20, 0, 20, 1), 1);
        Due.is("sooner", Due.wrong(x, 20, 0, 12, 1), 1);
        Due.is("sooner than one that is not the last", Due.wrong(x, 20, 0, 30, 0, 25, 1), 2);
        Due.is("behind the day", Due.wrong(x, 20, 0, 59, 0), 1);
        Due.is("none", Due.wrong(x, 20, 0, 23, 0, 26, 1, 27, 1), -9);
    }

    private static void pairsThatAreLeftOut() {
        SameTuesday x = Due.of("s;h1060,6163,0261,6369");
        Due.is("the first one's need is not met", Due.ends(x, 5, 1, 6, 0), 3);
        Due.is("it does not go on", Due.ends(x, 9, 1, 9 + 1, 0), 3);
        Due.is("one that begins while one goes on", Due.ends(x, 20, 2, 25, 0), 9);
        Due.is("it does not go on", Due.ends(x, 20, 2, 28, 0, 29, 0), 11);
        Due.is("behind the day", Due.ends(x, 20, 0, 59, 1), 3);
        Due.is("sooner than one that is kept", Due.ends(x, 20, 0, 12, 1), 3);
        Due.is("as late as one that is kept", Due.ends(x, 20, 0, 20, 2), 3);
        // The document: a pair's minute is to be above that of each pair ahead of it, left out or not.
        Due.is("sooner than one that is left out", Due.ends(x, 55, 2, 20, 0), 1);
        Due.is("as late as one that is left out", Due.ends(x, 5, 1, 5, 0), 1);
        Due.is("above two, the second of which is the lesser", Due.ends(x, 20, 0, 15, 1, 18, 2), 3);
    }

    private static void shorterDays() {
        SameTuesday x = Due.of("s;h1060;h2061,6263");
        x.minutes(20);
        Due.is("the last minute is 19", Due.ends(x), 1);
        Due.is("it ends in it", Due.ends(x, 16, 0), 5);
        Due.is("wrong", Due.wrong(x, 17, 0), 0);
        Due.is("a minute that the day has not", Due.wrong(x, 0, 0, 30, 0), 1);
        Due.is("it is left out", Due.ends(x, 0, 0, 30, 0), 5);
        x.minutes(21);
        Due.is("the last minute is 20", Due.ends(x), 3);
        Due.is("it ends in it", Due.ends(x, 17, 0), 7);
        x.minutes(1);
        Due.is("one minute", Due.ends(x), 0);
        Due.is("no deed ends in it", Due.wrong(x, 0, 0), 0);
        x.shift(0, 0);
        Due.is("a happening in it", Due.ends(x), 1);
    }

    private static void factsAtMinutes() {
        SameTuesday x = Due.of("s;h1060;m2060;h3061,6263");
        int[] minutes = {0, 9, 10, 12, 13, 19, 20, 29, 30, 59};
        int[] due = {0, 0, 1, 1, 5, 5, 4, 4, 6, 6};
        for (int i = 0; i < minutes.length; i++) {
            Due.is("at " + minutes[i], Due.at(x, minutes[i], 10, 0), due[i]);
        }
        x.minutes(15);
        Due.is("at the last one", Due.at(x, 14, 10, 0), 5);
        Due.is("as it has not so many", Due.at(x, 40, 10, 0), 5);
        Due.is("pairs that could not be are left out", Due.at(x, 59, 9, 0, 10, 0, 11, 0), 5);
    }

    private static void hangs() {
        SameTuesday x = Due.of("s;h1060;h2061;h3060,0263");
        Due.is("the third is as the first", Due.hangs(x), 2);
        Due.is("the deed hangs on the first", Due.hangs(x, 12, 0), 3);
        Due.is("later it does not", Due.hangs(x, 40, 0), 2);
        x = Due.of("s;h1060;m2060;c3061;c3061;h4062");
        Due.is("each alone", Due.hangs(x), 2 | 4 | 8 | 16);
        x.minutes(40);
        Due.is("the last is behind the day", Due.hangs(x), 2 | 4 | 8);
        x = Due.of("s;m1060;h2060,6061");
        Due.is("a mishap of what is not so", Due.hangs(x), 2);
        Due.is("the deed does it, too", Due.hangs(x, 30, 0), 0);
        Due.is("ahead of the mishap", Due.hangs(x, 3, 0), 2);
    }

    private static void twentyPairs() {
        SameTuesday x = Due.of("s;h5965,6161,1211");
        int[] cells = new int[40];
        for (int p = 0; p < 20; p++) {
            cells[2 * p] = 2 * p;
            cells[2 * p + 1] = p % 2;
        }
        Due.is("each can be", Due.wrong(x, cells), -9);
        Due.is("ends", Due.ends(x, cells), 36);
        cells[38] = 60;
        Due.is("the last minute is none", Due.wrong(x, cells), -2);
        cells[38] = 36;
        Due.is("the last is wrong", Due.wrong(x, cells), 19);
    }

    private static void rowsInTheMidst() {
        SameTuesday x = Due.of("s;h1060,6163,0261");
        Due.row(x, 99, 12, 1, 20, 0, 99);
        Due.is("two pairs from 1 on", x.live(1, 2, 1, 2, 0), -9);
        Due.is("their facts", x.live(1, 2, 1, 2, 1), 7);
        Due.is("at 13", x.at(13, 1, 2, 1, 2), 5);
        Due.is("hangs", x.hangs(1, 2, 1, 2), 1);
        Due.is("one pair", x.live(1, 2, 3, 1, 1), 3);
        Due.is("no pair at the end", x.live(1, 2, 6, 0, 1), 1);
    }

    private static void lanes() {
        SameTuesday x = Due.of("s;h1060,6163");
        for (int lane = 0; lane < 3; lane++) {
            x.sheet(3, lane, 2);
            x.put(3, 0, 30);
            Due.is("lane " + lane, x.live(3, lane, 0, 1, 1), 3);
        }
        x.sheet(3, Due.BYTES, 2);
        x.put(3, 0, 30 + 256);
        Due.is("what is cut to its lane", x.live(3, 0, 0, 1, 1), 3);
        x.sheet(3, Due.SHORTS, 2);
        x.put(3, 0, 30 + 256);
        Due.is("what is not", x.live(3, 1, 0, 1, 1), -2);
    }

    /** live, at and hangs refuse alike, in the document's order. */
    private static void refusals() {
        SameTuesday x = new SameTuesday();
        row(x, "no sheet", 4, 9, 0, -1, -1, 0);
        row(x, "no sheet", -1, 0, 0, 0, -1, 0);
        row(x, "no lane", 0, 3, 0, 0, -2, 0);
        row(x, "no lane", 0, -1, 0, 0, -2, 0);
        row(x, "n below", 0, 0, 0, -1, -2, 0);
        row(x, "n above", 0, 0, 0, 21, -2, 0);
        row(x, "nothing", 0, 0, 99, 1, Due.NULL, 1);
        x.sheet(0, 1, 4);
        row(x, "another lane", 0, 0, 99, 1, Due.CAST, 2);
        row(x, "another lane", 0, 2, 0, 1, Due.CAST, 2);
        row(x, "too many", 0, 1, 0, 3, Due.INDEX, 3);
        row(x, "too far", 0, 1, 1, 2, Due.INDEX, 3);
        row(x, "below", 0, 1, -1, 1, Due.INDEX, 3);
        row(x, "below, none taken", 0, 1, -1, 0, Due.INDEX, 3);
        row(x, "beyond, none taken", 0, 1, 5, 0, Due.INDEX, 3);
        row(x, "far", 0, 1, Integer.MAX_VALUE, 20, Due.INDEX, 3);
        row(x, "far below", 0, 1, Integer.MIN_VALUE, 20, Due.INDEX, 3);
        row(x, "no tuesday", 0, 1, 0, 2, -3, 0);
        row(x, "no tuesday", 0, 1, 4, 0, -3, 0);
        ownNumbers(x);
        SameTuesday y = Due.of("s;h1060,6163");
        int[][] cells = {{60, 0, 0, 0}, {-1, 0, 0, 0}, {0, 1, 60, 0}, {0, -1, 60, 0}, {5, 0, 60, 1}, {5, 0, 9, 1}, {60, 9, 0, 0}};
        int[] due = {-2, -2, -1, -1, -2, -1, -2};
        for (int c = 0; c < cells.length; c++) {
            int n = Due.row(y, cells[c]);
            row(y, "pairs " + c, 1, 2, 0, n, due[c], 0);
        }
        y.minutes(10);
        Due.is("minutes that the day has not are no fault", Due.wrong(y, 59, 0), 0);
        SameTuesday none = Due.of("s;h1060");
        Due.is("there is no deed", Due.ends(none, 0, 0), -1);
    }

    private static void row(SameTuesday x, String what, int sheet, int lane, int i, int n, int due, int fault) {
        Due.fault("live, " + what, x, x.live(sheet, lane, i, n, 0), due, fault);
        Due.fault("live, " + what, x, x.live(sheet, lane, i, n, 1), due, fault);
        Due.fault("at, " + what, x, x.at(0, sheet, lane, i, n), due, fault);
        Due.fault("hangs, " + what, x, x.hangs(sheet, lane, i, n), due, fault);
    }

    private static void ownNumbers(SameTuesday x) {
        Due.fault("what above", x, x.live(0, 0, 99, 1, 2), -2, 0);
        Due.fault("what below", x, x.live(2, 0, 99, 1, -1), -2, 0);
        Due.fault("what, no sheet", x, x.live(4, 0, 99, 1, -1), -1, 0);
        Due.fault("m above", x, x.at(60, 2, 0, 99, 1), -2, 0);
        Due.fault("m below", x, x.at(-1, 0, 0, 99, 1), -2, 0);
        Due.fault("m, no sheet", x, x.at(-1, -1, 0, 99, 1), -1, 0);
    }

    private static void refusedRowsChangeNothing() {
        SameTuesday x = Due.of("s;h1060,6163");
        Due.is("refused", Due.ends(x, 70, 0), -2);
        Due.is("minutes", x.many(2), 60);
        Due.is("days", x.many(3), 0);
        Due.is("trace", x.trace(), 0);
        Due.is("its cells stay", x.cell(1, 0, 2), 70);
        Due.is("a row behind a refused one", Due.ends(x, 20, 0), 3);
        Due.is("no row behind it", Due.ends(x), 1);
    }
}
