/** Promises 25 to 30: tellings, rhymes, kinds, the trace, the fault, how many. */
public final class PartsTest {
    public static void main(String[] args) {
        tell();
        tellShifted();
        rhyme();
        traceWraps();
        as();
        fault();
        faultIsOfCallsThatNameOne();
        many();
        Due.end();
    }

    private static int after(int trace, int... left) {
        int t = trace;
        for (int number : left) {
            t = 31 * t + number;
        }
        return t;
    }

    private static void tell() {
        SameTuesday x = Due.of("s;h0760;m0860;c0960;c0060");
        Due.is("trace", x.trace(), 0);
        Due.is("a happening", x.tell(0), 7);
        int t = after(0, 1);
        Due.is("trace", x.trace(), t);
        Due.is("a mishap", x.tell(1), 108);
        t = after(t, 2, 1);
        Due.is("trace", x.trace(), t);
        Due.is("a caprice", x.tell(2), 118);
        t = after(t, 3, 2, 1, 1);
        Due.is("trace", x.trace(), t);
        Due.is("a caprice of minute 0", x.tell(3), 100);
        t = after(t, 3, 2, 1, 1);
        Due.is("no such one", x.tell(4), -1);
        Due.is("no such one", x.tell(-1), -1);
        Due.is("trace", x.trace(), t);
        Due.is("none of a new object", new SameTuesday().tell(0), -1);
    }

    private static void tellShifted() {
        SameTuesday x = Due.of("s;h0760;m0860;c0960");
        for (int h = 0; h < 3; h++) {
            x.shift(h, 50);
        }
        Due.is("a happening", x.tell(0), 50);
        Due.is("a mishap", x.tell(1), 150);
        Due.is("a caprice", x.tell(2), 200);
    }

    private static void rhyme() {
        SameTuesday x = Due.of("s;h0760;m0860;c0960;h1060");
        Due.is("a happening", x.rhyme(0), 0);
        int t = after(0, 4);
        Due.is("trace", x.trace(), t);
        Due.is("a mishap", x.rhyme(1), 1);
        t = after(t, 4);
        Due.is("trace", x.trace(), t);
        Due.is("a caprice", x.rhyme(2), 40);
        t = after(t, 5);
        Due.is("trace", x.trace(), t);
        Due.is("another one", x.rhyme(3), 3);
        t = after(t, 4);
        Due.is("no such one", x.rhyme(4), -1);
        Due.is("no such one", x.rhyme(-1), -1);
        Due.is("trace", x.trace(), t);
        Due.is("none of a new object", new SameTuesday().rhyme(0), -1);
    }

    private static void traceWraps() {
        SameTuesday x = Due.of("s;c0760");
        int t = 0;
        for (int k = 0; k < 60; k++) {
            x.tell(0);
            t = after(t, 3, 2, 1, 1);
            Due.is("trace", x.trace(), t);
        }
    }

    private static void as() {
        SameTuesday x = Due.of("s;h0760;m0860;c0960");
        for (int h = 0; h < 3; h++) {
            for (int kind = 0; kind < 3; kind++) {
                boolean is = kind <= h;
                Due.fault("as(" + h + ", " + kind + ")", x, x.as(h, kind), is ? 1 : Due.CAST, is ? 0 : 2);
            }
            x.as(0, 1);
            Due.fault("kind below", x, x.as(h, -1), -2, 0);
            x.as(0, 1);
            Due.fault("kind above", x, x.as(h, 3), -2, 0);
        }
        x.as(0, 1);
        Due.fault("no such one", x, x.as(3, 9), -1, 0);
        x.as(0, 1);
        Due.fault("no such one", x, x.as(-1, 0), -1, 0);
        Due.is("nothing is left of it", x.trace(), 0);
    }

    /** Each call that names faults tells 0 where it came to none, or was refused. */
    private static void fault() {
        SameTuesday x = Due.of("s;h0760,6061");
        Due.row(x, 0, 0);
        for (int call = 0; call < 11; call++) {
            Due.fault("a fault", x, x.as(0, 1), Due.CAST, 2);
            naming(x, call, 1);
            Due.is("fault() after call " + call, x.fault(), 0);
            Due.fault("a fault", x, x.as(0, 1), Due.CAST, 2);
            naming(x, call, 9);
            Due.is("fault() after call " + call + ", refused", x.fault(), 0);
        }
    }

    private static void naming(SameTuesday x, int call, int sheet) {
        switch (call) {
            case 0: x.tuesday(sheet, 2, 0, 2); break;
            case 1: x.live(sheet, 2, 0, 1, 0); break;
            case 2: x.at(0, sheet, 2, 0, 1); break;
            case 3: x.hangs(sheet, 2, 0, 1); break;
            case 4: x.others(0, 0, sheet, 2, 0, 1); break;
            case 5: x.odds(0, sheet, 2, 0, 1, 0); break;
            case 6: x.sheet(sheet, 2, 2); break;
            case 7: x.put(sheet, 0, 0); break;
            case 8: x.cell(sheet, 0, 2); break;
            case 9: x.copy(sheet, 0, 1, 0, 1); break;
            default: x.as(sheet - 1, 0); break;
        }
    }

    private static void faultIsOfCallsThatNameOne() {
        SameTuesday x = Due.of("s;h0760,6061");
        Due.fault("a fault", x, x.cell(0, 99, 0), SameTuesday.LOST, 3);
        x.ofHappening(0, 0);
        x.ofDeed(9, 0);
        x.minutes(0);
        x.minutes(9);
        x.shift(0, 5);
        x.shift(9, 5);
        x.can(0, 0);
        x.can(60, 0);
        x.soonest(1);
        x.bar(63);
        x.day(0);
        x.day(64);
        x.forget(1);
        x.forget(1);
        x.laws(-1);
        x.laws(-2);
        x.fewest();
        x.next(0);
        x.next(9);
        x.lose(3);
        x.lose(9);
        x.tell(0);
        x.tell(9);
        x.rhyme(0);
        x.rhyme(9);
        x.trace();
        x.many(0);
        x.many(9);
        Due.is("fault()", x.fault(), 3);
        Due.is("fault() again", x.fault(), 3);
    }

    private static void many() {
        SameTuesday x = new SameTuesday();
        for (int what = 0; what < 4; what++) {
            Due.is("many(" + what + ") of none", x.many(what), 0);
        }
        Due.is("below", x.many(-1), -2);
        Due.is("above", x.many(4), -2);
        x = Due.of("s;h0760;h0760;h0760,6061,6061");
        x.day(1);
        x.minutes(17);
        Due.is("happenings", x.many(0), 3);
        Due.is("deeds", x.many(1), 2);
        Due.is("minutes", x.many(2), 17);
        Due.is("days", x.many(3), 1);
        Due.is("below", x.many(-1), -2);
        Due.is("above", x.many(4), -2);
        Due.is("far", x.many(Integer.MAX_VALUE), -2);
    }
}
