import java.util.ArrayList;
import java.util.List;
import java.util.function.ToLongFunction;

/** REFUSALS: their order, and that they change nothing but fault(), call by call. */
public final class RefusalEdgesTest {
    private static final long LOST = SameTuesday.LOST;
    private static final int LEAST = Integer.MIN_VALUE, MOST = Integer.MAX_VALUE;
    /** The call names no FAULTS: fault() stays as it was. */
    private static final int STAYS = -1;
    /** The FAULT that is come to ahead of each refused call. */
    private static final int AHEAD = 2;

    private record Refused(String call, ToLongFunction<SameTuesday> ask, long due, int fault) { }

    private static final List<Refused> LISTED = new ArrayList<>();

    public static void main(String[] args) {
        withATuesday();
        check(true);
        LISTED.clear();
        withoutATuesday();
        check(false);
        Due.end();
    }

    private static void is(String call, ToLongFunction<SameTuesday> ask, long due, int fault) {
        LISTED.add(new Refused(call, ask, due, fault));
    }

    /** Sheet 0: bytes, a text; 1: ints, two pairs; 2: shorts, three cells; 3: nothing. Eight days, if it is told. */
    private static SameTuesday town(boolean told) {
        SameTuesday x = new SameTuesday();
        String text = "s;h0360;m1001,6163,0241";
        Due.write(x, 0, Due.BYTES, text);
        if (told) {
            Due.is("taken", x.tuesday(0, Due.BYTES, 0, text.length()), 2);
            x.minutes(50);
            x.shift(1, 12);
            x.tell(1);
            int[] days = {0, 5, 9, 17, 33, 6, 12, 24};
            for (int day : days) {
                x.day(day);
            }
        }
        Due.row(x, 8, 0, 20, 1);
        x.sheet(2, Due.SHORTS, 3);
        x.put(2, 0, 60);
        x.put(2, 1, 9);
        x.put(2, 2, 7);
        return x;
    }

    /** Of two objects alike, one is asked what is refused: it tells of itself just what the other does. */
    private static void check(boolean told) {
        String due = Seen.of(town(told));
        for (Refused refused : LISTED) {
            SameTuesday x = town(told);
            x.cell(0, 0, Due.INTS);
            Due.sentence(0, "in the order in which a call's line tells them");
            Due.is("fault() ahead of " + refused.call, x.fault(), AHEAD);
            Due.is(refused.call, refused.ask.applyAsLong(x), refused.due);
            if (refused.fault == STAYS) {
                Due.sentence(29, "The FAULT of the latest call that names one");
                Due.is("fault() after " + refused.call, x.fault(), AHEAD);
            } else if (refused.fault == 0) {
                Due.sentence(0, "they change nothing (but fault(), of a call that names FAULTS)");
                Due.is("fault() after " + refused.call, x.fault(), 0);
            } else {
                Due.sentence(0, "fault() tells it");
                Due.is("fault() after " + refused.call, x.fault(), refused.fault);
            }
            Due.sentence(0, "they change nothing (but fault(), of a call that names FAULTS)");
            Due.holds(refused.call + " changes nothing", Seen.of(x).equals(due));
        }
    }

    private static void withATuesday() {
        tuesday();
        theDay();
        rows();
        pairs();
        theLaw();
        sheets();
        copies();
        parts();
    }

    private static void tuesday() {
        is("no such sheet, lane", x -> x.tuesday(4, 3, -1, -1), -1, 0);
        is("no such sheet", x -> x.tuesday(-1, 0, 0, 7), -1, 0);
        is("no lane, nothing", x -> x.tuesday(3, 3, -1, -1), -2, 0);
        is("no lane, n below 0", x -> x.tuesday(0, -1, -1, -1), -2, 0);
        is("nothing, n below 0", x -> x.tuesday(3, 0, -1, -1), Due.NULL, 1);
        is("another lane, n below 0", x -> x.tuesday(0, 1, -1, -1), Due.CAST, 2);
        is("n below 0, i below 0", x -> x.tuesday(0, 0, -1, -1), Due.SIZE, 4);
        is("n the least", x -> x.tuesday(0, 0, 0, LEAST), Due.SIZE, 4);
        is("not all cells are there, wrong codes", x -> x.tuesday(0, 0, 1, 60), Due.INDEX, 3);
        is("far", x -> x.tuesday(0, 0, MOST, MOST), Due.INDEX, 3);
        is("a wrong code", x -> x.tuesday(0, 0, 1, 6), -100, 0);
        is("it ends too soon", x -> x.tuesday(0, 0, 0, 21), -121, 0);
    }

    private static void theDay() {
        is("ofHappening(2, 4)", x -> x.ofHappening(2, 4), -1, STAYS);
        is("ofHappening(-1, 0)", x -> x.ofHappening(-1, 0), -1, STAYS);
        is("ofHappening(1, 4)", x -> x.ofHappening(1, 4), -2, STAYS);
        is("ofHappening(1, -1)", x -> x.ofHappening(1, -1), -2, STAYS);
        is("ofDeed(2, 4)", x -> x.ofDeed(2, 4), -1, STAYS);
        is("ofDeed(-1, 0)", x -> x.ofDeed(-1, 0), -1, STAYS);
        is("ofDeed(1, 4)", x -> x.ofDeed(1, 4), -2, STAYS);
        is("ofDeed(1, -1)", x -> x.ofDeed(1, -1), -2, STAYS);
        is("minutes(0)", x -> x.minutes(0), -2, STAYS);
        is("minutes(61)", x -> x.minutes(61), -2, STAYS);
        is("shift(2, 60)", x -> x.shift(2, 60), -1, STAYS);
        is("shift(-1, 0)", x -> x.shift(-1, 0), -1, STAYS);
        is("shift(1, 60)", x -> x.shift(1, 60), -2, STAYS);
        is("shift(1, -1)", x -> x.shift(1, -1), -2, STAYS);
    }

    /** The calls that take a row, each with its own numbers as they are to be. */
    private static void row(String what, int sheet, int lane, int i, int n, long due, int fault) {
        is("live 0, " + what, x -> x.live(sheet, lane, i, n, 0), due, fault);
        is("live 1, " + what, x -> x.live(sheet, lane, i, n, 1), due, fault);
        is("at, " + what, x -> x.at(59, sheet, lane, i, n), due, fault);
        is("hangs, " + what, x -> x.hangs(sheet, lane, i, n), due, fault);
        is("others, " + what, x -> x.others(63, 0, sheet, lane, i, n), due, fault);
        is("odds 0, " + what, x -> x.odds(63, sheet, lane, i, n, 0), LOST, fault);
        is("odds 1, " + what, x -> x.odds(0, sheet, lane, i, n, 1), LOST, fault);
    }

    /** The same calls, one of their own numbers being as it is not to be. */
    private static void own(String what, int sheet, int lane, int i, int n, long due) {
        for (int wrong : new int[] {-1, 2, MOST, LEAST}) {
            is("live(.., " + wrong + "), " + what, x -> x.live(sheet, lane, i, n, wrong), due, 0);
            is("odds(.., " + wrong + "), " + what, x -> x.odds(0, sheet, lane, i, n, wrong), LOST, 0);
        }
        for (int wrong : new int[] {-1, 60, MOST, LEAST}) {
            is("at(" + wrong + ", ..), " + what, x -> x.at(wrong, sheet, lane, i, n), due, 0);
        }
        for (int wrong : new int[] {-1, 64, MOST, LEAST}) {
            is("others(" + wrong + ", ..), " + what, x -> x.others(wrong, 0, sheet, lane, i, n), due, 0);
            is("odds(" + wrong + ", ..), " + what, x -> x.odds(wrong, sheet, lane, i, n, 0), LOST, 0);
        }
        for (int wrong : new int[] {-2, LEAST}) {
            is("others(.., " + wrong + ", ..), " + what, x -> x.others(64, wrong, sheet, lane, i, n), -1, 0);
        }
    }

    private static void rows() {
        row("no such sheet, lane, n", 4, 3, -1, 21, -1, 0);
        row("no such sheet", -1, 2, 0, 2, -1, 0);
        own("no such sheet", 4, 3, -1, 21, -1);
        own("nothing", 3, 0, -1, 1, -2);
        own("another lane", 1, 0, -1, 1, -2);
        own("not all cells are there", 1, 2, 1, 2, -2);
        own("a row", 1, 2, 0, 2, -2);
        row("no lane, nothing", 3, 3, -1, 1, -2, 0);
        row("no lane", 1, -1, -1, 1, -2, 0);
        row("n above, nothing", 3, 0, -1, 21, -2, 0);
        row("n below, another lane", 1, 0, -1, -1, -2, 0);
        row("n above, another lane", 1, 1, -1, 21, -2, 0);
        row("n below", 1, 2, 0, -1, -2, 0);
        row("n the most", 1, 2, 0, MOST, -2, 0);
        row("n the least", 1, 2, 0, LEAST, -2, 0);
        // 2 n would wrap to 2.
        row("n the least but one", 1, 2, 0, LEAST + 1, -2, 0);
        row("nothing, i below 0", 3, 0, -1, 1, Due.NULL, 1);
        row("another lane, i below 0", 1, 0, -1, 1, Due.CAST, 2);
        row("another lane, too far", 1, 1, 0, 20, Due.CAST, 2);
    }

    private static void pairs() {
        row("i below 0", 2, 1, -1, 1, Due.INDEX, 3);
        row("one cell is not there, a wrong pair", 2, 1, 0, 2, Due.INDEX, 3);
        row("far", 2, 1, MOST, 20, Due.INDEX, 3);
        row("far below", 2, 1, LEAST, 20, Due.INDEX, 3);
        row("no minute, no deed", 2, 1, 0, 1, -2, 0);
        row("a minute, no deed", 2, 1, 1, 1, -1, 0);
    }

    private static void theLaw() {
        is("can(60, 64)", x -> x.can(60, 64), -2, STAYS);
        is("can(-1, 0)", x -> x.can(-1, 0), -2, STAYS);
        is("can(0, 64)", x -> x.can(0, 64), -2, STAYS);
        is("can(0, -1)", x -> x.can(0, -1), -2, STAYS);
        is("soonest(64)", x -> x.soonest(64), -2, STAYS);
        is("soonest(-1)", x -> x.soonest(-1), -2, STAYS);
        is("bar(64)", x -> x.bar(64), -2, STAYS);
        is("bar(-1)", x -> x.bar(-1), -2, STAYS);
        is("day(64), full", x -> x.day(64), -2, STAYS);
        is("day(-1), full", x -> x.day(-1), -2, STAYS);
        is("day(0), full", x -> x.day(0), -4, STAYS);
        is("day(63), full", x -> x.day(63), -4, STAYS);
        is("forget(9)", x -> x.forget(9), -2, STAYS);
        is("forget(-1)", x -> x.forget(-1), -2, STAYS);
        is("laws(-2)", x -> x.laws(-2), -1, STAYS);
        is("next(2)", x -> x.next(2), -2, STAYS);
        is("next(-1)", x -> x.next(-1), -2, STAYS);
    }

    private static void sheets() {
        is("sheet(4, 3, 61)", x -> x.sheet(4, 3, 61), -1, 0);
        is("sheet(-1, 0, -1)", x -> x.sheet(-1, 0, -1), -1, 0);
        is("sheet(1, 3, -1)", x -> x.sheet(1, 3, -1), -2, 0);
        is("sheet(1, -1, 1)", x -> x.sheet(1, -1, 1), -2, 0);
        is("sheet(1, 0, 61)", x -> x.sheet(1, 0, 61), -2, 0);
        is("sheet(1, 2, MOST)", x -> x.sheet(1, 2, MOST), -2, 0);
        is("sheet(1, 2, -1)", x -> x.sheet(1, 2, -1), Due.SIZE, 4);
        is("sheet(3, 2, LEAST)", x -> x.sheet(3, 2, LEAST), Due.SIZE, 4);
        is("lose(4)", x -> x.lose(4), -1, STAYS);
        is("lose(-1)", x -> x.lose(-1), -1, STAYS);
        is("put(4, -1, 5)", x -> x.put(4, -1, 5), -1, 0);
        is("put(-1, 0, 5)", x -> x.put(-1, 0, 5), -1, 0);
        is("put(3, -1, 5)", x -> x.put(3, -1, 5), Due.NULL, 1);
        is("put(1, -1, 5)", x -> x.put(1, -1, 5), Due.INDEX, 3);
        is("put(1, 4, 5)", x -> x.put(1, 4, 5), Due.INDEX, 3);
        is("cell(4, -1, 3)", x -> x.cell(4, -1, 3), LOST, 0);
        is("cell(-1, 0, 0)", x -> x.cell(-1, 0, 0), LOST, 0);
        is("cell(3, -1, 3)", x -> x.cell(3, -1, 3), LOST, 0);
        is("cell(1, -1, -1)", x -> x.cell(1, -1, -1), LOST, 0);
        is("cell(3, -1, 2)", x -> x.cell(3, -1, 2), LOST, 1);
        is("cell(1, -1, 1)", x -> x.cell(1, -1, 1), LOST, 2);
        is("cell(1, -1, 2)", x -> x.cell(1, -1, 2), LOST, 3);
        is("cell(1, 4, 2)", x -> x.cell(1, 4, 2), LOST, 3);
    }

    private static void copies() {
        is("copy from sheet 4", x -> x.copy(4, -1, 3, -1, -1), -1, 0);
        is("copy from nothing to sheet -1", x -> x.copy(3, -1, -1, -1, -1), -1, 0);
        is("copy to sheet 4", x -> x.copy(1, 0, 4, 0, 1), -1, 0);
        is("copy from nothing", x -> x.copy(3, -1, 0, -1, -1), Due.NULL, 1);
        is("copy to nothing", x -> x.copy(0, -1, 3, -1, -1), Due.NULL, 1);
        is("copy to another lane", x -> x.copy(0, -1, 1, -1, -1), Due.CAST, 2);
        is("copy from i below 0", x -> x.copy(1, -1, 1, 0, 1), Due.INDEX, 3);
        is("copy to j below 0", x -> x.copy(1, 0, 1, -1, 1), Due.INDEX, 3);
        is("copy of n below 0", x -> x.copy(1, 2, 1, 2, -1), Due.INDEX, 3);
        is("copy from beyond", x -> x.copy(1, 3, 1, 0, 2), Due.INDEX, 3);
        is("copy to beyond", x -> x.copy(1, 0, 1, 3, 2), Due.INDEX, 3);
    }

    private static void parts() {
        is("tell(2)", x -> x.tell(2), -1, STAYS);
        is("tell(-1)", x -> x.tell(-1), -1, STAYS);
        is("rhyme(2)", x -> x.rhyme(2), -1, STAYS);
        is("rhyme(-1)", x -> x.rhyme(-1), -1, STAYS);
        is("as(2, 3)", x -> x.as(2, 3), -1, 0);
        is("as(-1, 0)", x -> x.as(-1, 0), -1, 0);
        is("as(0, 3)", x -> x.as(0, 3), -2, 0);
        is("as(1, -1)", x -> x.as(1, -1), -2, 0);
        is("as(0, 1)", x -> x.as(0, 1), Due.CAST, 2);
        is("as(1, 2)", x -> x.as(1, 2), Due.CAST, 2);
        is("many(4)", x -> x.many(4), -2, STAYS);
        is("many(-1)", x -> x.many(-1), -2, STAYS);
    }

    private static void withoutATuesday() {
        is("minutes(61)", x -> x.minutes(61), -2, STAYS);
        is("minutes(60)", x -> x.minutes(60), -3, STAYS);
        is("can(60, 0)", x -> x.can(60, 0), -2, STAYS);
        is("can(0, 64)", x -> x.can(0, 64), -2, STAYS);
        is("can(59, 63)", x -> x.can(59, 63), -3, STAYS);
        is("soonest(64)", x -> x.soonest(64), -2, STAYS);
        is("soonest(63)", x -> x.soonest(63), -3, STAYS);
        is("bar(64)", x -> x.bar(64), -2, STAYS);
        is("bar(63)", x -> x.bar(63), -3, STAYS);
        is("day(64)", x -> x.day(64), -2, STAYS);
        is("day(63)", x -> x.day(63), -3, STAYS);
        is("forget(1)", x -> x.forget(1), -2, STAYS);
        is("laws(-2)", x -> x.laws(-2), -1, STAYS);
        is("laws(-1)", x -> x.laws(-1), -3, STAYS);
        is("laws(64)", x -> x.laws(64), -3, STAYS);
        is("fewest()", x -> x.fewest(), -3, STAYS);
        is("next(2)", x -> x.next(2), -2, STAYS);
        is("next(1)", x -> x.next(1), -3, STAYS);
        is("ofHappening(0, 9)", x -> x.ofHappening(0, 9), -1, STAYS);
        is("ofDeed(0, 9)", x -> x.ofDeed(0, 9), -1, STAYS);
        is("shift(0, 60)", x -> x.shift(0, 60), -1, STAYS);
        is("tell(0)", x -> x.tell(0), -1, STAYS);
        is("rhyme(0)", x -> x.rhyme(0), -1, STAYS);
        is("as(0, 9)", x -> x.as(0, 9), -1, 0);
        own("no tuesday", 1, 2, 0, 2, -2);
        row("nothing", 3, 2, 0, 2, Due.NULL, 1);
        row("another lane", 1, 1, 0, 2, Due.CAST, 2);
        row("not all cells are there", 2, 1, 0, 2, Due.INDEX, 3);
        row("no tuesday, no minute", 2, 1, 0, 1, -3, 0);
        row("no tuesday, no deed", 2, 1, 1, 1, -3, 0);
        row("no tuesday, no pairs", 2, 1, 3, 0, -3, 0);
    }
}
