/** What the tests share: counting wrong answers, and writing texts and rows into sheets. */
final class Due {
    static final int BYTES = 0, SHORTS = 1, INTS = 2;
    static final int NULL = -11, CAST = -12, INDEX = -13, SIZE = -14;

    private static int wrong = 0;
    private static int asked = 0;
    private static String by = "";

    private Due() { }

    /** By which words of the document the answers from here on are due; promise 0 stands for its Terms. */
    static void sentence(int promise, String words) {
        by = (promise == 0 ? "Terms" : "Promise " + promise) + ", \"" + words + "\": ";
    }

    static void is(String call, long got, long want) {
        asked++;
        if (got != want) {
            wrong++;
            System.out.println(by + call + " answered " + got + ", due is " + want);
        }
    }

    static void holds(String what, boolean so) {
        is(what, so ? 1 : 0, 1);
    }

    /** Asks for the answer and for what fault() tells then. */
    static void fault(String call, SameTuesday x, long got, long want, int fault) {
        is(call, got, want);
        is("fault() after " + call, x.fault(), fault);
    }

    static void end() {
        if (asked == 0) {
            System.out.println("nothing was asked");
            System.exit(1);
        }
        System.out.println(asked + " answers, " + wrong + " wrong");
        if (wrong != 0) {
            System.exit(1);
        }
    }

    /** Makes the sheet anew, of a lane, with the codes of a text. */
    static void write(SameTuesday x, int sheet, int lane, String text) {
        is("sheet for " + text, x.sheet(sheet, lane, text.length()), 1);
        for (int i = 0; i < text.length(); i++) {
            is("put for " + text, x.put(sheet, i, text.charAt(i)), 1);
        }
    }

    /** What tuesday() answers to a text that is all of a sheet of bytes. */
    static int text(SameTuesday x, String text) {
        write(x, 0, BYTES, text);
        return x.tuesday(0, BYTES, 0, text.length());
    }

    static SameTuesday of(String text) {
        SameTuesday x = new SameTuesday();
        int got = text(x, text);
        holds("text is taken: " + text + " (" + got + ")", got > 0);
        return x;
    }

    /** Makes sheet 1 anew, of ints, with a row's minutes and deeds one after the other; how many pairs. */
    static int row(SameTuesday x, int... cells) {
        is("sheet for a row", x.sheet(1, INTS, cells.length), 1);
        for (int i = 0; i < cells.length; i++) {
            is("put for a row", x.put(1, i, cells[i]), 1);
        }
        return cells.length / 2;
    }

    static int wrong(SameTuesday x, int... cells) {
        return x.live(1, INTS, 0, row(x, cells), 0);
    }

    static int ends(SameTuesday x, int... cells) {
        return x.live(1, INTS, 0, row(x, cells), 1);
    }

    static int hangs(SameTuesday x, int... cells) {
        return x.hangs(1, INTS, 0, row(x, cells));
    }

    static int at(SameTuesday x, int m, int... cells) {
        return x.at(m, 1, INTS, 0, row(x, cells));
    }

    static int others(SameTuesday x, int set, int k, int... cells) {
        return x.others(set, k, 1, INTS, 0, row(x, cells));
    }

    /** The odds as upper number times 1000, and the lower number. */
    static long odds(SameTuesday x, int set, int... cells) {
        int n = row(x, cells);
        return 1000 * x.odds(set, 1, INTS, 0, n, 0) + x.odds(set, 1, INTS, 0, n, 1);
    }
}
