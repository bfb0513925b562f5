/** FAULTS: each by itself at its edges, which of several is come to first, and what fault() tells behind each call. */
public final class FaultEdgesTest {
    private static final long LOST = SameTuesday.LOST;
    private static final int LEAST = Integer.MIN_VALUE, MOST = Integer.MAX_VALUE;
    private static final int ROWS = 6;
    private static final String TEXT = "s;h0360;m1001;c1502,6163";

    public static void main(String[] args) {
        indexOfATextWithoutCodes();
        indexOfARowWithoutPairs();
        indexOfACopyWithoutCells();
        indexOfCells();
        indexOfWholeRows();
        size();
        belowZeroButNoSize();
        firstFaultOfATuesday();
        firstFaultOfRows();
        firstFaultOfACell();
        firstFaultOfACopy();
        nothingIsNoCast();
        eachLaneAsEachLane();
        aheadOfAny();
        cameToNone();
        callsThatNameNone();
        Due.end();
    }

    /** The calls that take a row: what each answers. */
    private static long row(SameTuesday x, int call, int sheet, int lane, int i, int n) {
        switch (call) {
            case 0: return x.live(sheet, lane, i, n, 0);
            case 1: return x.live(sheet, lane, i, n, 1);
            case 2: return x.at(0, sheet, lane, i, n);
            case 3: return x.hangs(sheet, lane, i, n);
            case 4: return x.others(0, -1, sheet, lane, i, n);
            default: return x.odds(0, sheet, lane, i, n, 1);
        }
    }

    private static void rowFault(String what, SameTuesday x, int sheet, int lane, int i, int n, int fault) {
        for (int call = 0; call < ROWS; call++) {
            x.put(0, 0, 's');
            Due.is("fault() ahead of it", x.fault(), 0);
            Due.fault("row call " + call + ", " + what, x, row(x, call, sheet, lane, i, n),
                call == 5 ? LOST : -10 - fault, fault);
        }
    }

    private static void rowFine(String what, SameTuesday x, int sheet, int lane, int i, int n) {
        for (int call = 0; call < ROWS; call++) {
            x.cell(0, 99, 0);
            long got = row(x, call, sheet, lane, i, n);
            Due.holds("row call " + call + ", " + what + " (" + got + ")", got >= 0 || got == SameTuesday.NONE);
            Due.is("fault() after row call " + call + ", " + what, x.fault(), 0);
        }
    }

    private static void indexOfATextWithoutCodes() {
        SameTuesday x = Due.of(TEXT);
        int size = TEXT.length();
        Due.sentence(0, "of cells from i on also where i is not 0 .. how many there are, if none of them is taken, too");
        for (int i = 0; i <= size; i++) {
            Due.fault("no codes from " + i, x, x.tuesday(0, 0, i, 0), -100, 0);
        }
        for (int i : new int[] {-1, size + 1, 60, 61, LEAST, MOST}) {
            Due.fault("no codes from " + i, x, x.tuesday(0, 0, i, 0), Due.INDEX, 3);
        }
        x.sheet(2, 1, 0);
        Due.fault("no codes of no cells", x, x.tuesday(2, 1, 0, 0), -100, 0);
        Due.fault("no codes from 1 of no cells", x, x.tuesday(2, 1, 1, 0), Due.INDEX, 3);
    }

    private static void indexOfARowWithoutPairs() {
        SameTuesday x = Due.of(TEXT);
        x.sheet(2, 2, 5);
        Due.sentence(0, "of cells from i on also where i is not 0 .. how many there are, if none of them is taken, too");
        for (int i = 0; i <= 5; i++) {
            rowFine("no pairs from " + i, x, 2, 2, i, 0);
        }
        for (int i : new int[] {-1, 6, 60, LEAST, MOST}) {
            rowFault("no pairs from " + i, x, 2, 2, i, 0, 3);
        }
        x.sheet(3, 0, 0);
        rowFine("no pairs of no cells", x, 3, 0, 0, 0);
        rowFault("no pairs from 1 of no cells", x, 3, 0, 1, 0, 3);
    }

    private static void indexOfACopyWithoutCells() {
        SameTuesday x = new SameTuesday();
        x.sheet(0, 2, 3);
        x.sheet(1, 2, 5);
        Due.sentence(0, "of cells from i on also where i is not 0 .. how many there are, if none of them is taken, too");
        for (int i = -1; i <= 6; i++) {
            for (int j = -1; j <= 7; j++) {
                boolean there = i >= 0 && i <= 3 && j >= 0 && j <= 5;
                Due.fault("no cells from " + i + " to " + j, x, x.copy(0, i, 1, j, 0), there ? 0 : Due.INDEX, there ? 0 : 3);
            }
        }
        for (int far : new int[] {LEAST, MOST}) {
            Due.fault("no cells from " + far, x, x.copy(0, far, 1, 0, 0), Due.INDEX, 3);
            Due.fault("no cells to " + far, x, x.copy(0, 0, 1, far, 0), Due.INDEX, 3);
        }
    }

    private static void indexOfCells() {
        SameTuesday x = new SameTuesday();
        for (int size : new int[] {0, 1, 60}) {
            x.sheet(0, 1, size);
            for (int i : new int[] {LEAST, -1, 0, size - 1, size, size + 1, 59, 60, 61, MOST}) {
                boolean there = i >= 0 && i < size;
                Due.sentence(22, "NULL; INDEX");
                Due.fault("put " + i + " of " + size, x, x.put(0, i, 7), there ? 1 : Due.INDEX, there ? 0 : 3);
                Due.sentence(23, "FAULTS CAST (nothing is no CAST), NULL, INDEX");
                Due.fault("cell " + i + " of " + size, x, x.cell(0, i, 1), there ? 7 : LOST, there ? 0 : 3);
            }
        }
    }

    private static void indexOfWholeRows() {
        SameTuesday x = Due.of(TEXT);
        int size = TEXT.length();
        Due.sentence(2, "INDEX: not all cells are there");
        Due.fault("one too many", x, x.tuesday(0, 0, 0, size + 1), Due.INDEX, 3);
        Due.fault("one too far", x, x.tuesday(0, 0, 1, size), Due.INDEX, 3);
        Due.fault("from -1 on", x, x.tuesday(0, 0, -1, size), Due.INDEX, 3);
        Due.fault("far", x, x.tuesday(0, 0, 1, MOST), Due.INDEX, 3);
        Due.fault("farther", x, x.tuesday(0, 0, MOST, 1), Due.INDEX, 3);
        Due.fault("just all", x, x.tuesday(0, 0, 0, size), 3, 0);
        x.sheet(2, 2, 6);
        Due.sentence(7, "INDEX (2 n cells)");
        rowFine("three pairs from 0 on", x, 2, 2, 0, 3);
        rowFine("two pairs from 2 on", x, 2, 2, 2, 2);
        rowFault("four pairs", x, 2, 2, 0, 4, 3);
        rowFault("three pairs from 1 on", x, 2, 2, 1, 3, 3);
        rowFault("two pairs from 3 on", x, 2, 2, 3, 2, 3);
        rowFault("one pair from -1 on", x, 2, 2, -1, 1, 3);
        rowFault("one pair from 5 on", x, 2, 2, 5, 1, 3);
        rowFault("far", x, 2, 2, MOST, 20, 3);
    }

    private static void size() {
        SameTuesday x = Due.of(TEXT);
        Due.sentence(0, "SIZE (a length below 0)");
        for (int n : new int[] {-1, -2, LEAST}) {
            Due.fault("a text of " + n, x, x.tuesday(0, 0, 0, n), Due.SIZE, 4);
            Due.fault("a sheet of " + n, x, x.sheet(3, 0, n), Due.SIZE, 4);
        }
        Due.fault("a text of 0", x, x.tuesday(0, 0, 0, 0), -100, 0);
        Due.fault("a sheet of 0", x, x.sheet(3, 0, 0), 1, 0);
    }

    private static void belowZeroButNoSize() {
        SameTuesday x = Due.of(TEXT);
        x.sheet(2, 2, 6);
        Due.sentence(7, "OUTSIDE: lane, n (0 .. 20), what");
        for (int call = 0; call < ROWS; call++) {
            Due.fault("row call " + call + " of -1 pairs", x, row(x, call, 2, 2, 0, -1), call == 5 ? LOST : -2, 0);
        }
        Due.sentence(24, "INDEX: i, j, n below 0 or beyond");
        Due.fault("a copy of -1", x, x.copy(2, 0, 2, 0, -1), Due.INDEX, 3);
        Due.fault("a copy of -1", x, x.copy(2, 3, 2, 3, -1), Due.INDEX, 3);
        Due.fault("a copy of the least", x, x.copy(2, 0, 2, 0, LEAST), Due.INDEX, 3);
    }

    private static void firstFaultOfATuesday() {
        SameTuesday x = Due.of(TEXT);
        Due.sentence(0, "Of a call the first that is come to, in the order told");
        Due.fault("NULL, SIZE, INDEX", x, x.tuesday(3, 0, -1, -1), Due.NULL, 1);
        Due.fault("NULL, INDEX", x, x.tuesday(3, 0, -1, 1), Due.NULL, 1);
        Due.fault("CAST, SIZE, INDEX", x, x.tuesday(0, 2, -1, -1), Due.CAST, 2);
        Due.fault("CAST, INDEX", x, x.tuesday(0, 2, 99, 9), Due.CAST, 2);
        Due.fault("SIZE, INDEX", x, x.tuesday(0, 0, -1, -1), Due.SIZE, 4);
        Due.fault("SIZE, INDEX", x, x.tuesday(0, 0, 99, -1), Due.SIZE, 4);
    }

    private static void firstFaultOfRows() {
        SameTuesday x = Due.of(TEXT);
        x.sheet(2, 2, 6);
        Due.sentence(0, "Of a call the first that is come to, in the order told");
        rowFault("NULL, INDEX", x, 3, 2, -1, 9, 1);
        rowFault("CAST, INDEX", x, 2, 1, -1, 9, 2);
        x.put(2, 0, 60);
        rowFault("CAST, a pair that is none", x, 2, 1, 0, 1, 2);
        rowFault("INDEX, a pair that is none", x, 2, 2, 0, 4, 3);
    }

    private static void firstFaultOfACell() {
        SameTuesday x = Due.of(TEXT);
        Due.sentence(0, "Of a call the first that is come to, in the order told");
        Due.fault("cell: NULL, INDEX", x, x.cell(3, -1, 2), LOST, 1);
        Due.fault("cell: CAST, INDEX", x, x.cell(0, -1, 2), LOST, 2);
        Due.fault("put: NULL, INDEX", x, x.put(3, -1, 0), Due.NULL, 1);
    }

    private static void firstFaultOfACopy() {
        SameTuesday x = Due.of(TEXT);
        x.sheet(2, 2, 6);
        Due.sentence(24, "FAULTS NULL (the first, the other), CAST (unlike LANES), INDEX");
        Due.fault("copy: the first, INDEX", x, x.copy(3, -1, 2, -1, -1), Due.NULL, 1);
        Due.fault("copy: the other, INDEX", x, x.copy(2, -1, 3, -1, -1), Due.NULL, 1);
        Due.fault("copy: both", x, x.copy(1, 0, 3, 0, 0), Due.NULL, 1);
        Due.fault("copy: itself", x, x.copy(3, 0, 3, 0, 0), Due.NULL, 1);
        Due.fault("copy: CAST, INDEX", x, x.copy(0, -1, 2, -1, -1), Due.CAST, 2);
        Due.fault("copy: CAST of no cells", x, x.copy(2, 0, 0, 0, 0), Due.CAST, 2);
    }

    private static void nothingIsNoCast() {
        SameTuesday x = Due.of(TEXT);
        x.sheet(2, 2, 6);
        x.lose(2);
        for (int lane = 0; lane < 3; lane++) {
            // Sheet 2 had ints once, sheet 3 never had anything.
            for (int sheet = 2; sheet < 4; sheet++) {
                String of = " of nothing, as lane " + lane;
                Due.sentence(2, "FAULTS CAST (nothing is no CAST), NULL");
                Due.fault("a text" + of, x, x.tuesday(sheet, lane, 0, 1), Due.NULL, 1);
                Due.sentence(23, "FAULTS CAST (nothing is no CAST), NULL");
                Due.fault("a cell" + of, x, x.cell(sheet, 0, lane), LOST, 1);
                Due.sentence(7, "FAULTS CAST, NULL, INDEX");
                rowFault("a row" + of, x, sheet, lane, 0, 0, 1);
            }
        }
    }

    private static void eachLaneAsEachLane() {
        SameTuesday x = Due.of(TEXT);
        Due.sentence(0, "2 CAST (it is of another lane, kind)");
        for (int is = 0; is < 3; is++) {
            x.sheet(2, is, 2);
            for (int as = 0; as < 3; as++) {
                boolean same = is == as;
                String what = "lane " + is + " as " + as;
                Due.fault("text, " + what, x, x.tuesday(2, as, 0, 2), same ? -100 : Due.CAST, same ? 0 : 2);
                Due.fault("cell, " + what, x, x.cell(2, 1, as), same ? 0 : LOST, same ? 0 : 2);
                if (same) {
                    rowFine(what, x, 2, as, 0, 1);
                } else {
                    rowFault(what, x, 2, as, 0, 1, 2);
                }
                x.sheet(3, as, 2);
                Due.fault("copy, " + what, x, x.copy(2, 0, 3, 0, 2), same ? 2 : Due.CAST, same ? 0 : 2);
            }
        }
    }

    private static void aheadOfAny() {
        SameTuesday x = new SameTuesday();
        Due.sentence(29, "0: it came to none, or was refused (0 ahead of any)");
        Due.is("fault() of a new object", x.fault(), 0);
        x.many(0);
        x.lose(0);
        x.minutes(9);
        Due.is("fault() behind calls that name none", x.fault(), 0);
    }

    /** Each call that names FAULTS and comes to none, behind one that came to one. */
    private static void cameToNone() {
        Due.sentence(29, "0: it came to none, or was refused (0 ahead of any)");
        for (int call = 0; call < 13; call++) {
            SameTuesday x = Due.of(TEXT);
            Due.row(x, 8, 0);
            Due.fault("a fault ahead", x, x.as(0, 2), Due.CAST, 2);
            long got = naming(x, call);
            Due.holds("naming call " + call + " (" + got + ")", got >= 0 || got == SameTuesday.NONE);
            Due.is("fault() after naming call " + call, x.fault(), 0);
            Due.is("and again", x.fault(), 0);
        }
    }

    private static long naming(SameTuesday x, int call) {
        switch (call) {
            case 6: return x.tuesday(0, 0, 0, TEXT.length());
            case 7: return x.sheet(3, 0, 0);
            case 8: return x.sheet(0, 2, 60);
            case 9: return x.put(1, 0, 5);
            case 10: return x.cell(1, 0, 2);
            case 11: return x.copy(1, 0, 1, 1, 1);
            case 12: return x.as(2, 2);
            default: return row(x, call, 1, 2, 0, 1);
        }
    }

    private static void callsThatNameNone() {
        SameTuesday x = Due.of(TEXT);
        Due.sentence(29, "The FAULT of the latest call that names one");
        Due.fault("a fault ahead", x, x.put(3, 0, 0), Due.NULL, 1);
        x.ofHappening(0, 1);
        x.ofDeed(0, 1);
        x.minutes(30);
        x.shift(0, 4);
        x.can(0, 0);
        x.soonest(1);
        x.bar(63);
        x.day(1);
        x.forget(1);
        x.laws(0);
        x.fewest();
        x.next(0);
        x.lose(0);
        x.tell(0);
        x.rhyme(0);
        x.trace();
        x.many(0);
        Due.is("fault() behind all that name none", x.fault(), 1);
        Due.fault("another one", x, x.sheet(0, 0, -1), Due.SIZE, 4);
        Due.fault("and another", x, x.as(0, 1), Due.CAST, 2);
    }
}
