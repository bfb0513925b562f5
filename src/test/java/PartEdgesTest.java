/** Tellings, rhymes, kinds, TRACE and how many, at their edges (promises 25 to 30). */
public final class PartEdgesTest {
    private static final int LEAST = Integer.MIN_VALUE, MOST = Integer.MAX_VALUE;

    public static void main(String[] args) {
        tellings();
        tellingsAreOfThoseThere();
        rhymes();
        rhymesAreOfThoseThere();
        traceAtFirst();
        traceWraps();
        traceByAllBodies();
        eachKindAsEachKind();
        kindsAsked();
        many();
        Due.end();
    }

    private static void tellings() {
        SameTuesday x = Due.of("s;h0060;m0060;c0060;h5960;m5960;c5960");
        int[] due = {0, 100, 100, 59, 159, 218};
        Due.sentence(0, "MISHAP (2): what HAPPENING's gives, and 100.");
        for (int h = 0; h < 6; h++) {
            Due.is("tell(" + h + ")", x.tell(h), due[h]);
        }
        Due.sentence(0, "HAPPENING (1): its MINUTE.");
        x.minutes(1);
        Due.is("a minute that the day has not", x.tell(3), 59);
        x.shift(3, 0);
        x.shift(2, 7);
        Due.is("its minute now", x.tell(3), 0);
        Due.is("a caprice's minute now", x.tell(2), 114);
    }

    private static void tellingsAreOfThoseThere() {
        SameTuesday x = Due.of("s;h0060;m0060");
        x.tell(1);
        int trace = x.trace();
        Due.sentence(25, "TELLING of a HAPPENING. UNKNOWN.");
        for (int h : new int[] {-1, 2, 6, LEAST, MOST}) {
            Due.is("tell(" + h + ")", x.tell(h), -1);
            Due.is("no trace is left", x.trace(), trace);
        }
        Due.is("no tuesday", new SameTuesday().tell(0), -1);
    }

    private static void rhymes() {
        SameTuesday x = Due.of("s;h0060;m0060;c0060;h5960;m5960;c5960");
        int[] due = {0, 1, 40, 3, 4, 40};
        Due.sentence(0, "RHYMED by a lent body (4): its number; CAPRICES have their own (5): 40.");
        for (int h = 0; h < 6; h++) {
            Due.is("rhyme(" + h + ")", x.rhyme(h), due[h]);
        }
        x.shift(3, 7);
        Due.is("a shifted one keeps its number", x.rhyme(3), 3);
    }

    private static void rhymesAreOfThoseThere() {
        SameTuesday x = Due.of("s;h0060;c0060");
        x.rhyme(1);
        int trace = x.trace();
        Due.sentence(26, "How it is RHYMED. UNKNOWN.");
        for (int h : new int[] {-1, 2, 6, LEAST, MOST}) {
            Due.is("rhyme(" + h + ")", x.rhyme(h), -1);
            Due.is("no trace is left", x.trace(), trace);
        }
        Due.is("no tuesday", new SameTuesday().rhyme(0), -1);
    }

    private static void traceAtFirst() {
        SameTuesday x = new SameTuesday();
        Due.sentence(0, "TRACE (an int that wraps, 0 at first, becomes 31 times it and the number) as they begin");
        Due.is("of a new object", x.trace(), 0);
        Due.text(x, "s;h0560;m0660;c0760");
        Due.is("by a text", x.trace(), 0);
        x.as(2, 1);
        x.ofHappening(2, 0);
        Due.is("by a kind", x.trace(), 0);
        Due.row(x);
        x.live(1, 2, 0, 0, 1);
        x.hangs(1, 2, 0, 0);
        Due.is("by a day lived", x.trace(), 0);
    }

    /** What TRACE is by the numbers that bodies left, one after another, reckoned without an int's wrap. */
    private static int by(int... left) {
        long trace = 0;
        for (int number : left) {
            trace = Math.floorMod(31 * trace + number, 1L << 32);
        }
        return (int) trace;
    }

    private static void traceWraps() {
        SameTuesday x = Due.of("s;h0560;m0660;c0760");
        Due.sentence(0, "TRACE (an int that wraps, 0 at first, becomes 31 times it and the number) as they begin");
        int[] left = new int[14];
        // The seventh fits no int any more: it is below 0, the eighth above it again.
        int[] due = {4, 128, 3972, 123136, 3817220, 118333824, -626618748, 2049655296, -885195260};
        for (int k = 0; k < left.length; k++) {
            left[k] = 4;
            x.rhyme(0);
            Due.is("behind " + (k + 1) + " rhymes", x.trace(), by(java.util.Arrays.copyOf(left, k + 1)));
            if (k < due.length) {
                Due.is("behind " + (k + 1) + " rhymes", x.trace(), due[k]);
            }
        }
    }

    private static void traceByAllBodies() {
        SameTuesday x = Due.of("s;h0560;m0660;c0760");
        Due.sentence(0, "CAPRICE (3): what MISHAP's gives, and what HAPPENING's gives (MISHAP's left out).");
        x.tell(2);
        Due.is("a caprice", x.trace(), by(3, 2, 1, 1));
        x.tell(1);
        Due.is("a mishap behind it", x.trace(), by(3, 2, 1, 1, 2, 1));
        x.tell(0);
        Due.is("a happening behind it", x.trace(), by(3, 2, 1, 1, 2, 1, 1));
        x.rhyme(1);
        Due.is("a mishap's rhyme", x.trace(), by(3, 2, 1, 1, 2, 1, 1, 4));
        x.rhyme(2);
        Due.sentence(28, "TRACE.");
        Due.is("a caprice's rhyme", x.trace(), by(3, 2, 1, 1, 2, 1, 1, 4, 5));
        Due.is("it stays", x.trace(), by(3, 2, 1, 1, 2, 1, 1, 4, 5));
    }

    private static void eachKindAsEachKind() {
        SameTuesday x = Due.of("s;h0560;m0660;c0760");
        Due.sentence(27, "CAST: it is none (each is a HAPPENING, too; a CAPRICE is a MISHAP).");
        boolean[][] is = {{true, false, false}, {true, true, false}, {true, true, true}};
        for (int h = 0; h < 3; h++) {
            for (int kind = 0; kind < 3; kind++) {
                String call = "as(" + h + ", " + kind + ")";
                Due.fault(call, x, x.as(h, kind), is[h][kind] ? 1 : Due.CAST, is[h][kind] ? 0 : 2);
            }
        }
    }

    private static void kindsAsked() {
        SameTuesday x = Due.of("s;h0560;m0660;c0760");
        Due.sentence(27, "A HAPPENING, taken as one of a kind: 1. UNKNOWN; OUTSIDE");
        for (int kind : new int[] {-1, 3, LEAST, MOST}) {
            for (int h = 0; h < 3; h++) {
                Due.fault("as(" + h + ", " + kind + ")", x, x.as(h, kind), -2, 0);
            }
            Due.fault("as(3, " + kind + ")", x, x.as(3, kind), -1, 0);
        }
        for (int h : new int[] {-1, 3, 6, LEAST, MOST}) {
            Due.fault("as(" + h + ", 0)", x, x.as(h, 0), -1, 0);
            Due.fault("as(" + h + ", 2)", x, x.as(h, 2), -1, 0);
        }
        SameTuesday none = new SameTuesday();
        Due.fault("no tuesday", none, none.as(0, 0), -1, 0);
    }

    private static void many() {
        SameTuesday x = new SameTuesday();
        Due.sentence(30, "(0 all without a TUESDAY). OUTSIDE.");
        for (int what = 0; what < 4; what++) {
            Due.is("many(" + what + "), no tuesday", x.many(what), 0);
        }
        for (int what : new int[] {-1, 4, LEAST, MOST}) {
            Due.is("many(" + what + "), no tuesday", x.many(what), -2);
        }
        Due.text(x, "s");
        Due.is("a text that was not taken", x.many(2), 0);
        Due.sentence(30, "How many: 0 HAPPENINGS, 1 DEEDS, 2 MINUTES of the day, 3 DAYS lived");
        Due.text(x, "s;h0560;m0660;c0760,6061");
        x.day(5);
        x.day(6);
        int[] due = {3, 1, 60, 2};
        for (int what = 0; what < 4; what++) {
            Due.is("many(" + what + ")", x.many(what), due[what]);
        }
        for (int what : new int[] {-1, 4, LEAST, MOST}) {
            Due.is("many(" + what + ")", x.many(what), -2);
        }
        x.minutes(1);
        Due.is("minutes", x.many(2), 1);
    }
}
