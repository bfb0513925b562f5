/** Promises 20 to 24: sheets and their cells. */
public final class SheetsTest {
    private static final long LOST = SameTuesday.LOST;

    public static void main(String[] args) {
        sheet();
        lose();
        put();
        cell();
        copy();
        copyWithinOneSheet();
        refusalsOfCopy();
        Due.end();
    }

    private static void sheet() {
        SameTuesday x = new SameTuesday();
        Due.fault("k below", x, x.sheet(-1, 9, -1), -1, 0);
        Due.fault("k above", x, x.sheet(4, 0, 1), -1, 0);
        Due.fault("lane below", x, x.sheet(0, -1, -1), -2, 0);
        Due.fault("lane above", x, x.sheet(0, 3, 1), -2, 0);
        Due.fault("n above", x, x.sheet(0, 0, 61), -2, 0);
        Due.fault("n below", x, x.sheet(0, 0, -1), Due.SIZE, 4);
        Due.fault("least n", x, x.sheet(0, 0, Integer.MIN_VALUE), Due.SIZE, 4);
        Due.is("it still has nothing", x.lose(0), 0);
        Due.is("which names no fault", x.fault(), 4);
        Due.fault("none", x, x.sheet(0, 0, 0), 1, 0);
        Due.fault("no cell", x, x.put(0, 0, 1), Due.INDEX, 3);
        Due.fault("sixty", x, x.sheet(0, 2, 60), 1, 0);
        for (int i = 0; i < 60; i++) {
            Due.is("0 at first", x.cell(0, i, 2), 0);
            x.put(0, i, i + 1);
        }
        Due.fault("refused", x, x.sheet(0, 1, 61), -2, 0);
        Due.fault("refused", x, x.sheet(0, 1, -1), Due.SIZE, 4);
        Due.is("it stays", x.cell(0, 59, 2), 60);
        Due.is("anew", x.sheet(0, 1, 60), 1);
        for (int i = 0; i < 60; i++) {
            Due.is("0 at first", x.cell(0, i, 1), 0);
        }
        Due.is("the others still have nothing", x.lose(1) + x.lose(2) + x.lose(3), 0);
    }

    private static void lose() {
        SameTuesday x = new SameTuesday();
        Due.is("k below", x.lose(-1), -1);
        Due.is("k above", x.lose(4), -1);
        for (int k = 0; k < 4; k++) {
            x.sheet(k, 0, k);
        }
        Due.is("it had", x.lose(2), 1);
        Due.is("it had nothing", x.lose(2), 0);
        Due.fault("nothing", x, x.put(2, 0, 0), Due.NULL, 1);
        Due.is("a row of no cells is not nothing", x.lose(0), 1);
        Due.is("another", x.lose(1), 1);
        Due.is("another", x.lose(3), 1);
        Due.is("fault stays", x.fault(), 1);
    }

    private static void put() {
        SameTuesday x = new SameTuesday();
        Due.fault("k below", x, x.put(-1, 0, 0), -1, 0);
        Due.fault("k above", x, x.put(4, -1, 0), -1, 0);
        Due.fault("nothing", x, x.put(0, -1, 0), Due.NULL, 1);
        x.sheet(0, 0, 3);
        x.sheet(1, 1, 3);
        x.sheet(2, 2, 3);
        Due.fault("i below", x, x.put(0, -1, 5), Due.INDEX, 3);
        Due.fault("i above", x, x.put(0, 3, 5), Due.INDEX, 3);
        Due.fault("far", x, x.put(0, Integer.MAX_VALUE, 5), Due.INDEX, 3);
        Due.fault("well", x, x.put(0, 2, 5), 1, 0);
        Due.is("it", x.cell(0, 2, 0), 5);
        int[] values = {0, 1, -1, 127, 128, 255, 256, -128, -129, 32767, 32768, 65535, 65536, -32768, -32769,
            Integer.MAX_VALUE, Integer.MIN_VALUE, 0x12345678};
        for (int v : values) {
            for (int lane = 0; lane < 3; lane++) {
                Due.is("put " + v, x.put(lane, 1, v), 1);
            }
            Due.is("byte of " + v, x.cell(0, 1, 0), (byte) v);
            Due.is("short of " + v, x.cell(1, 1, 1), (short) v);
            Due.is("int of " + v, x.cell(2, 1, 2), v);
        }
        Due.is("beside it", x.cell(2, 0, 2), 0);
        Due.is("beside it", x.cell(2, 2, 2), 0);
    }

    private static void cell() {
        SameTuesday x = new SameTuesday();
        Due.fault("k below", x, x.cell(-1, 0, 9), LOST, 0);
        Due.fault("k above", x, x.cell(4, 0, 0), LOST, 0);
        Due.fault("lane below", x, x.cell(0, 0, -1), LOST, 0);
        Due.fault("lane above", x, x.cell(0, 0, 3), LOST, 0);
        Due.fault("nothing", x, x.cell(0, -1, 1), LOST, 1);
        x.sheet(0, 0, 3);
        Due.fault("another lane", x, x.cell(0, -1, 1), LOST, 2);
        Due.fault("another lane", x, x.cell(0, 0, 2), LOST, 2);
        Due.fault("no lane", x, x.cell(0, 0, 3), LOST, 0);
        Due.fault("i below", x, x.cell(0, -1, 0), LOST, 3);
        Due.fault("i above", x, x.cell(0, 3, 0), LOST, 3);
        Due.fault("far", x, x.cell(0, Integer.MAX_VALUE, 0), LOST, 3);
        Due.fault("well", x, x.cell(0, 2, 0), 0, 0);
        x.lose(0);
        Due.fault("lost", x, x.cell(0, 2, 1), LOST, 1);
    }

    private static void numbers(SameTuesday x, int k, int lane, int... values) {
        x.sheet(k, lane, values.length);
        for (int i = 0; i < values.length; i++) {
            x.put(k, i, values[i]);
        }
    }

    private static void cells(String what, SameTuesday x, int k, int lane, int... due) {
        for (int i = 0; i < due.length; i++) {
            Due.is(what + ", cell " + i, x.cell(k, i, lane), due[i]);
        }
    }

    private static void copy() {
        SameTuesday x = new SameTuesday();
        numbers(x, 0, 1, 1, 2, 3, 4, 5);
        numbers(x, 3, 1, 10, 20, 30);
        Due.fault("two", x, x.copy(0, 1, 3, 1, 2), 2, 0);
        cells("to", x, 3, 1, 10, 2, 3);
        cells("from", x, 0, 1, 1, 2, 3, 4, 5);
        Due.fault("all", x, x.copy(3, 0, 0, 2, 3), 3, 0);
        cells("to", x, 0, 1, 1, 2, 10, 2, 3);
        Due.fault("none", x, x.copy(3, 3, 0, 5, 0), 0, 0);
        cells("to", x, 0, 1, 1, 2, 10, 2, 3);
    }

    private static void copyWithinOneSheet() {
        SameTuesday x = new SameTuesday();
        numbers(x, 2, 2, 1, 2, 3, 4, 5);
        Due.is("up", x.copy(2, 0, 2, 1, 4), 4);
        cells("up", x, 2, 2, 1, 1, 2, 3, 4);
        Due.is("down", x.copy(2, 2, 2, 0, 3), 3);
        cells("down", x, 2, 2, 2, 3, 4, 3, 4);
        Due.is("upon itself", x.copy(2, 0, 2, 0, 5), 5);
        cells("upon itself", x, 2, 2, 2, 3, 4, 3, 4);
    }

    private static void refusalsOfCopy() {
        SameTuesday x = new SameTuesday();
        Due.fault("the first", x, x.copy(4, 0, 0, 0, 0), -1, 0);
        Due.fault("the other", x, x.copy(0, 0, -1, 0, 0), -1, 0);
        Due.fault("nothing", x, x.copy(0, 0, 1, 0, 0), Due.NULL, 1);
        numbers(x, 0, 0, 1, 2, 3);
        Due.fault("the other has nothing", x, x.copy(0, -1, 1, 0, 0), Due.NULL, 1);
        Due.fault("the first has nothing", x, x.copy(1, 0, 0, 0, 0), Due.NULL, 1);
        numbers(x, 1, 1, 7, 8, 9);
        Due.fault("unlike", x, x.copy(0, -1, 1, 0, 0), Due.CAST, 2);
        Due.fault("unlike", x, x.copy(1, 0, 0, 0, -1), Due.CAST, 2);
        numbers(x, 2, 0, 4, 5);
        int[][] wrong = {{-1, 0, 1}, {0, -1, 1}, {0, 0, -1}, {2, 0, 2}, {0, 1, 2}, {0, 0, 3}, {4, 0, 0}, {0, 3, 0},
            {-1, 0, 0}, {0, -1, 0}, {Integer.MAX_VALUE, 0, 1}, {0, Integer.MAX_VALUE, 1}, {1, 1, Integer.MAX_VALUE},
            {0, 0, Integer.MIN_VALUE}, {Integer.MIN_VALUE, 0, Integer.MIN_VALUE}};
        for (int[] w : wrong) {
            Due.fault("index", x, x.copy(0, w[0], 2, w[1], w[2]), Due.INDEX, 3);
        }
        cells("to", x, 2, 0, 4, 5);
        Due.fault("well", x, x.copy(0, 1, 2, 0, 2), 2, 0);
        cells("to", x, 2, 0, 2, 3);
        Due.fault("refused", x, x.copy(0, 0, 4, 0, -1), -1, 0);
    }
}
