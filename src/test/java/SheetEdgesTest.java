/** SHEETS at their edges (promises 20 to 24). */
public final class SheetEdgesTest {
    private static final long LOST = SameTuesday.LOST;
    private static final int LEAST = Integer.MIN_VALUE, MOST = Integer.MAX_VALUE;

    public static void main(String[] args) {
        sheetsZeroToThree();
        rowOfNoNumbers();
        rowOfSixtyNumbers();
        lengths();
        lanes();
        zeroAtFirst();
        lose();
        loseAndMakeAgain();
        cutToItsLane();
        bothEndsOfEachLane();
        cellsByThemselves();
        copyUp();
        copyDown();
        copyAllOverlaps();
        copyNoCells();
        copyAllCells();
        copyBetweenSheets();
        copyBounds();
        copyOfEachLane();
        tuesdayAndSheets();
        Due.end();
    }

    private static void sheetsZeroToThree() {
        Due.sentence(0, "SHEETS 0 .. 3 have nothing (at first)");
        SameTuesday x = new SameTuesday();
        for (int k = 0; k < 4; k++) {
            Due.is("lose " + k, x.lose(k), 0);
            Due.fault("put " + k, x, x.put(k, 0, 0), Due.NULL, 1);
            Due.is("sheet " + k, x.sheet(k, k % 3, k), 1);
        }
        for (int k : new int[] {-1, 4, LEAST, MOST}) {
            Due.sentence(20, "UNKNOWN; OUTSIDE: lane, n above 60; SIZE.");
            Due.fault("sheet " + k, x, x.sheet(k, 0, 1), -1, 0);
            Due.sentence(21, "A SHEET has nothing: 1; 0: it had nothing. UNKNOWN.");
            Due.is("lose " + k, x.lose(k), -1);
            Due.sentence(22, "UNKNOWN; NULL; INDEX.");
            Due.fault("put " + k, x, x.put(k, 0, 0), -1, 0);
            Due.sentence(23, "LOST: UNKNOWN, OUTSIDE: lane");
            Due.fault("cell " + k, x, x.cell(k, 0, 0), LOST, 0);
            Due.sentence(24, "UNKNOWN; FAULTS NULL (the first, the other)");
            Due.fault("copy from " + k, x, x.copy(k, 0, 0, 0, 0), -1, 0);
            Due.fault("copy to " + k, x, x.copy(0, 0, k, 0, 0), -1, 0);
            Due.sentence(2, "UNKNOWN; OUTSIDE: lane; FAULTS CAST");
            Due.fault("tuesday of " + k, x, x.tuesday(k, 0, 0, 0), -1, 0);
            Due.sentence(7, "UNKNOWN: SHEET; OUTSIDE: lane, n (0 .. 20), what");
            Due.fault("live of " + k, x, x.live(k, 0, 0, 0, 0), -1, 0);
        }
    }

    private static void rowOfNoNumbers() {
        Due.sentence(0, "or a row of 0 .. 60 numbers (0 at first) of a LANE: 0 bytes, 1 shorts, 2 ints");
        for (int lane = 0; lane < 3; lane++) {
            SameTuesday x = new SameTuesday();
            Due.fault("no numbers", x, x.sheet(0, lane, 0), 1, 0);
            Due.fault("put", x, x.put(0, 0, 1), Due.INDEX, 3);
            Due.fault("cell", x, x.cell(0, 0, lane), LOST, 3);
            Due.fault("cell, another lane", x, x.cell(0, 0, (lane + 1) % 3), LOST, 2);
            Due.fault("copy upon itself", x, x.copy(0, 0, 0, 0, 0), 0, 0);
            Due.fault("copy of one", x, x.copy(0, 0, 0, 0, 1), Due.INDEX, 3);
            Due.is("it is not nothing", x.lose(0), 1);
            Due.is("it is nothing", x.lose(0), 0);
        }
    }

    private static void rowOfSixtyNumbers() {
        Due.sentence(0, "or a row of 0 .. 60 numbers (0 at first) of a LANE: 0 bytes, 1 shorts, 2 ints");
        for (int lane = 0; lane < 3; lane++) {
            SameTuesday x = new SameTuesday();
            Due.fault("60 numbers", x, x.sheet(3, lane, 60), 1, 0);
            for (int i = 0; i < 60; i++) {
                Due.is("put " + i, x.put(3, i, i - 30), 1);
            }
            for (int i = 0; i < 60; i++) {
                Due.is("cell " + i, x.cell(3, i, lane), i - 30);
            }
            Due.fault("put 60", x, x.put(3, 60, 1), Due.INDEX, 3);
            Due.fault("cell 60", x, x.cell(3, 60, lane), LOST, 3);
        }
    }

    private static void lengths() {
        SameTuesday x = new SameTuesday();
        x.sheet(0, 2, 2);
        x.put(0, 1, 9);
        Due.sentence(20, "OUTSIDE: lane, n above 60; SIZE.");
        for (int n : new int[] {61, 62, MOST}) {
            Due.fault("n " + n, x, x.sheet(0, 0, n), -2, 0);
            Due.fault("n " + n + ", no lane", x, x.sheet(0, 3, n), -2, 0);
        }
        for (int n : new int[] {-1, -60, -61, LEAST}) {
            Due.fault("n " + n, x, x.sheet(0, 0, n), Due.SIZE, 4);
            Due.fault("n " + n + ", no lane", x, x.sheet(0, 3, n), -2, 0);
            Due.fault("n " + n + ", no sheet", x, x.sheet(4, 0, n), -1, 0);
        }
        Due.is("it is as it was", x.cell(0, 1, 2), 9);
        Due.is("nothing stays nothing", x.lose(1), 0);
        for (int n : new int[] {0, 1, 59, 60}) {
            Due.fault("n " + n, x, x.sheet(0, 0, n), 1, 0);
            Due.is("just so many", x.copy(0, 0, 0, 0, n), n);
            Due.is("no more", x.copy(0, 0, 0, 0, n + 1), Due.INDEX);
        }
    }

    private static void lanes() {
        SameTuesday x = new SameTuesday();
        x.sheet(0, 2, 2);
        x.put(0, 1, 9);
        for (int lane : new int[] {-1, 3, LEAST, MOST}) {
            Due.sentence(20, "OUTSIDE: lane, n above 60; SIZE.");
            Due.fault("sheet, lane " + lane, x, x.sheet(0, lane, 1), -2, 0);
            Due.sentence(23, "LOST: UNKNOWN, OUTSIDE: lane; FAULTS CAST (nothing is no CAST), NULL, INDEX.");
            Due.fault("cell, lane " + lane, x, x.cell(0, 1, lane), LOST, 0);
            Due.fault("cell of nothing, lane " + lane, x, x.cell(1, 1, lane), LOST, 0);
            Due.sentence(2, "UNKNOWN; OUTSIDE: lane; FAULTS CAST");
            Due.fault("tuesday, lane " + lane, x, x.tuesday(0, lane, 0, 0), -2, 0);
            Due.sentence(7, "UNKNOWN: SHEET; OUTSIDE: lane, n (0 .. 20), what");
            Due.fault("live, lane " + lane, x, x.live(0, lane, 0, 0, 0), -2, 0);
        }
        Due.is("it is as it was", x.cell(0, 1, 2), 9);
    }

    private static void zeroAtFirst() {
        Due.sentence(20, "A SHEET gets a new row: 1.");
        SameTuesday x = new SameTuesday();
        for (int lane = 0; lane < 3; lane++) {
            x.sheet(2, lane, 20);
            for (int i = 0; i < 20; i++) {
                Due.is("0 at first", x.cell(2, i, lane), 0);
                x.put(2, i, 77);
            }
        }
        x.sheet(2, 2, 3);
        x.sheet(2, 2, 20);
        for (int i = 0; i < 20; i++) {
            Due.is("0 at first, behind a shorter row", x.cell(2, i, 2), 0);
        }
    }

    private static void lose() {
        Due.sentence(21, "A SHEET has nothing: 1; 0: it had nothing.");
        for (int k = 0; k < 4; k++) {
            SameTuesday x = new SameTuesday();
            for (int j = 0; j < 4; j++) {
                x.sheet(j, 1, 2);
            }
            Due.is("it had a row", x.lose(k), 1);
            Due.is("it has none any more", x.lose(k), 0);
            for (int j = 0; j < 4; j++) {
                Due.fault("sheet " + j, x, x.put(j, 0, 1), j == k ? Due.NULL : 1, j == k ? 1 : 0);
            }
        }
    }

    private static void loseAndMakeAgain() {
        Due.sentence(21, "A SHEET has nothing: 1; 0: it had nothing.");
        SameTuesday x = new SameTuesday();
        x.sheet(0, 1, 4);
        x.put(0, 3, 7);
        x.lose(0);
        Due.fault("its cell is gone", x, x.cell(0, 3, 1), LOST, 1);
        x.sheet(0, 1, 4);
        Due.fault("a new row has 0", x, x.cell(0, 3, 1), 0, 0);
    }

    private static void cutToItsLane() {
        Due.sentence(0, "what comes to a cell of it is cut to its LANE");
        int[] values = {128, 200, 255, 256, 257, -129, -256, -257, 32768, 40000, 65535, 65536, 65537, -32769, -65536,
            0x7FFFFF80, 0x12348765, LEAST, MOST};
        int[] bytes = {-128, -56, -1, 0, 1, 127, 0, -1, 0, 64, -1, 0, 1, -1, 0, -128, 101, 0, -1};
        int[] shorts = {128, 200, 255, 256, 257, -129, -256, -257, -32768, -25536, -1, 0, 1, 32767, 0, -128, -30875, 0, -1};
        SameTuesday x = new SameTuesday();
        for (int lane = 0; lane < 3; lane++) {
            x.sheet(lane, lane, 1);
        }
        for (int k = 0; k < values.length; k++) {
            for (int lane = 0; lane < 3; lane++) {
                Due.is("put " + values[k], x.put(lane, 0, values[k]), 1);
            }
            Due.is("byte of " + values[k], x.cell(0, 0, 0), bytes[k]);
            Due.is("short of " + values[k], x.cell(1, 0, 1), shorts[k]);
            Due.is("int of " + values[k], x.cell(2, 0, 2), values[k]);
        }
    }

    private static void bothEndsOfEachLane() {
        Due.sentence(22, "Cell i of a SHEET becomes v: 1.");
        int[] greatest = {127, 32767, MOST};
        for (int lane = 0; lane < 3; lane++) {
            SameTuesday x = new SameTuesday();
            x.sheet(0, lane, 1);
            for (int v : new int[] {0, 1, -1, greatest[lane], -greatest[lane] - 1}) {
                x.put(0, 0, v);
                Due.is("lane " + lane + " holds " + v, x.cell(0, 0, lane), v);
            }
            x.put(0, 0, greatest[lane] + 1);
            Due.is("lane " + lane + ", one above", x.cell(0, 0, lane), -greatest[lane] - 1);
            x.put(0, 0, -greatest[lane] - 2);
            Due.is("lane " + lane + ", one below", x.cell(0, 0, lane), greatest[lane]);
        }
    }

    private static void cellsByThemselves() {
        Due.sentence(22, "Cell i of a SHEET becomes v: 1.");
        SameTuesday x = new SameTuesday();
        x.sheet(0, 0, 3);
        x.sheet(1, 0, 3);
        x.put(0, 1, -1);
        cells("just that cell", x, 0, 0, 0, -1, 0);
        cells("just that sheet", x, 1, 0, 0, 0, 0);
    }

    private static void numbers(SameTuesday x, int k, int lane, int... values) {
        x.sheet(k, lane, values.length);
        for (int i = 0; i < values.length; i++) {
            x.put(k, i, values[i]);
        }
    }

    private static void cells(String what, SameTuesday x, int k, int lane, int... due) {
        for (int i = 0; i < due.length; i++) {
            Due.is(what + ", cell " + i, x.cell(k, i, lane), due[i]);
        }
    }

    private static void copyUp() {
        Due.sentence(24, "n cells of a SHEET from i on go to another one (perhaps the same) from j on, as they were: n.");
        SameTuesday x = new SameTuesday();
        numbers(x, 0, 2, 1, 2, 3, 4, 5, 6);
        Due.is("up by one", x.copy(0, 0, 0, 1, 5), 5);
        cells("up by one", x, 0, 2, 1, 1, 2, 3, 4, 5);
        numbers(x, 0, 2, 1, 2, 3, 4, 5, 6);
        Due.is("up by two", x.copy(0, 1, 0, 3, 3), 3);
        cells("up by two", x, 0, 2, 1, 2, 3, 2, 3, 4);
    }

    private static void copyDown() {
        Due.sentence(24, "n cells of a SHEET from i on go to another one (perhaps the same) from j on, as they were: n.");
        SameTuesday x = new SameTuesday();
        numbers(x, 0, 2, 1, 2, 3, 4, 5, 6);
        Due.is("down by one", x.copy(0, 1, 0, 0, 5), 5);
        cells("down by one", x, 0, 2, 2, 3, 4, 5, 6, 6);
        numbers(x, 0, 2, 1, 2, 3, 4, 5, 6);
        Due.is("down by two", x.copy(0, 3, 0, 1, 3), 3);
        cells("down by two", x, 0, 2, 1, 4, 5, 6, 5, 6);
    }

    /** Each copy within a row of five, by what its cells were ahead of it. */
    private static void copyAllOverlaps() {
        Due.sentence(24, "n cells of a SHEET from i on go to another one (perhaps the same) from j on, as they were: n.");
        for (int lane = 0; lane < 3; lane++) {
            for (int i = 0; i <= 5; i++) {
                for (int j = 0; j <= 5; j++) {
                    for (int n = 0; n <= 5 - Math.max(i, j); n++) {
                        SameTuesday x = new SameTuesday();
                        numbers(x, 1, lane, 11, 12, 13, 14, 15);
                        int[] due = {11, 12, 13, 14, 15};
                        for (int k = 0; k < n; k++) {
                            due[j + k] = 11 + i + k;
                        }
                        Due.is("copy", x.copy(1, i, 1, j, n), n);
                        cells(n + " from " + i + " to " + j, x, 1, lane, due);
                    }
                }
            }
        }
    }

    private static void copyNoCells() {
        Due.sentence(24, "n cells of a SHEET from i on go to another one (perhaps the same) from j on, as they were: n.");
        SameTuesday x = new SameTuesday();
        numbers(x, 0, 1, 1, 2);
        numbers(x, 1, 1, 3, 4, 5);
        for (int i = 0; i <= 2; i++) {
            for (int j = 0; j <= 3; j++) {
                Due.fault("no cells from " + i + " to " + j, x, x.copy(0, i, 1, j, 0), 0, 0);
            }
        }
        cells("from", x, 0, 1, 1, 2);
        cells("to", x, 1, 1, 3, 4, 5);
    }

    private static void copyAllCells() {
        Due.sentence(24, "n cells of a SHEET from i on go to another one (perhaps the same) from j on, as they were: n.");
        SameTuesday x = new SameTuesday();
        x.sheet(0, 0, 60);
        x.sheet(3, 0, 60);
        for (int i = 0; i < 60; i++) {
            x.put(0, i, i + 1);
        }
        Due.is("sixty", x.copy(0, 0, 3, 0, 60), 60);
        for (int i = 0; i < 60; i++) {
            Due.is("cell " + i, x.cell(3, i, 0), i + 1);
        }
        Due.is("sixty upon themselves", x.copy(3, 0, 3, 0, 60), 60);
        Due.is("the last one", x.cell(3, 59, 0), 60);
        Due.is("61", x.copy(0, 0, 3, 0, 61), Due.INDEX);
    }

    private static void copyBetweenSheets() {
        Due.sentence(24, "n cells of a SHEET from i on go to another one (perhaps the same) from j on, as they were: n.");
        SameTuesday x = new SameTuesday();
        numbers(x, 0, 1, 1, 2, 3, 4, 5);
        numbers(x, 1, 1, 10, 20, 30);
        Due.is("two", x.copy(0, 3, 1, 0, 2), 2);
        cells("to", x, 1, 1, 4, 5, 30);
        cells("from, it stays", x, 0, 1, 1, 2, 3, 4, 5);
        x.put(0, 3, 99);
        Due.is("they are apart", x.cell(1, 0, 1), 4);
    }

    private static void copyBounds() {
        Due.sentence(24, "INDEX: i, j, n below 0 or beyond");
        SameTuesday x = new SameTuesday();
        numbers(x, 0, 1, 1, 2, 3, 4, 5);
        numbers(x, 1, 1, 10, 20, 30);
        int[][] wrong = {{-1, 0, 1}, {0, -1, 1}, {0, 0, -1}, {5, 0, 1}, {4, 0, 2}, {6, 0, 0}, {0, 3, 1}, {0, 2, 2}, {0, 4, 0},
            {0, 0, 4}, {LEAST, 0, 1}, {0, LEAST, 1}, {1, 1, LEAST}, {MOST, 0, 1}, {0, MOST, 1}, {1, 1, MOST},
            {MOST, 0, MOST}, {2, MOST, MOST}, {-1, 0, 0}, {0, -1, 0}, {1, 1, -1}, {-1, 0, 4}, {0, -1, 4}};
        for (int[] w : wrong) {
            Due.fault(w[2] + " from " + w[0] + " to " + w[1], x, x.copy(0, w[0], 1, w[1], w[2]), Due.INDEX, 3);
        }
        cells("to", x, 1, 1, 10, 20, 30);
        Due.fault("just there", x, x.copy(0, 2, 1, 0, 3), 3, 0);
        Due.fault("the last one", x, x.copy(0, 4, 1, 2, 1), 1, 0);
    }

    private static void copyOfEachLane() {
        Due.sentence(24, "CAST (unlike LANES)");
        for (int from = 0; from < 3; from++) {
            for (int to = 0; to < 3; to++) {
                SameTuesday x = new SameTuesday();
                numbers(x, 0, from, 1, -2);
                numbers(x, 1, to, 8, 9);
                boolean like = from == to;
                Due.fault("lane " + from + " to " + to, x, x.copy(0, 0, 1, 0, 2), like ? 2 : Due.CAST, like ? 0 : 2);
                Due.is("the first", x.cell(1, 0, to), like ? 1 : 8);
                Due.is("the second", x.cell(1, 1, to), like ? -2 : 9);
            }
        }
    }

    private static void tuesdayAndSheets() {
        Due.sentence(0, "SHEETS 0 .. 3 have nothing (at first), or a row of 0 .. 60 numbers");
        SameTuesday x = Due.of("s;h0560");
        numbers(x, 2, 2, 5, 6);
        Due.is("taken again", x.tuesday(0, 0, 0, 7), 1);
        cells("another text leaves them", x, 2, 2, 5, 6);
        Due.is("lose the text", x.lose(0), 1);
        Due.is("the tuesday stays", x.many(0), 1);
        Due.is("it ends", x.soonest(1), 5);
    }
}
