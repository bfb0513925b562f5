/** What CAN BE at its edges (promises 10 to 12). */
public final class CanBeEdgesTest {
    private static final int LEAST = Integer.MIN_VALUE, MOST = Integer.MAX_VALUE;

    public static void main(String[] args) {
        minutesAsked();
        setsAsked();
        theLastOne();
        goesOnIsNoMatter();
        anyDeeds();
        moreDeedsThanARowHas();
        waiting();
        begunInOneMinuteAlone();
        orderWithinAMinute();
        soonestOfNoneAndAll();
        soonestInTheFirstAndTheLast();
        soonestNever();
        soonestAllAtOnce();
        barOfNoPair();
        barOfEachPair();
        barOfTheFirstPair();
        barAsTheDayEnds();
        changesOfTheDay();
        Due.end();
    }

    private static void minutesAsked() {
        SameTuesday x = Due.of("s;h0060;h5961");
        Due.sentence(10, "OUTSIDE: m (0 .. 59), set (0 .. 63); STATE: there is no TUESDAY.");
        Due.is("m 0", x.can(0, 1), 1);
        Due.is("m 58", x.can(58, 3), 0);
        Due.is("m 59", x.can(59, 3), 1);
        for (int m : new int[] {-1, 60, LEAST, MOST}) {
            Due.is("m " + m, x.can(m, 1), -2);
            Due.is("m " + m + ", no tuesday", new SameTuesday().can(m, 1), -2);
        }
        Due.is("m 0, no tuesday", new SameTuesday().can(0, 0), -3);
        Due.is("m 59, no tuesday", new SameTuesday().can(59, 63), -3);
        x.minutes(5);
        Due.is("m 60 of a shorter day", x.can(60, 1), -2);
        Due.is("m 59 of a shorter day", x.can(59, 1), 1);
    }

    private static void setsAsked() {
        SameTuesday all = Due.of("s;h0160;h0161;h0162;h0163;h0164;h0165");
        Due.sentence(10, "Whether a state CAN BE as MINUTE m ends");
        Due.is("set 0, as none is so", all.can(0, 0), 1);
        Due.is("set 0, as all are so", all.can(1, 0), 0);
        Due.is("set 63, as none is so", all.can(0, 63), 0);
        Due.is("set 63, as all are so", all.can(1, 63), 1);
        Due.is("a part of what is so is another state", all.can(1, 62), 0);
        for (int set : new int[] {-1, 64, LEAST, MOST}) {
            Due.sentence(10, "OUTSIDE: m (0 .. 59), set (0 .. 63)");
            Due.is("can, set " + set, all.can(0, set), -2);
            Due.is("can, set " + set + ", no tuesday", new SameTuesday().can(0, set), -2);
            Due.sentence(11, "OUTSIDE: set; STATE: there is no TUESDAY.");
            Due.is("soonest, set " + set, all.soonest(set), -2);
            Due.is("soonest, set " + set + ", no tuesday", new SameTuesday().soonest(set), -2);
            Due.sentence(12, "OUTSIDE: set; STATE: there is no TUESDAY.");
            Due.is("bar, set " + set, all.bar(set), -2);
            Due.is("bar, set " + set + ", no tuesday", new SameTuesday().bar(set), -2);
        }
        for (int set : new int[] {0, 63}) {
            Due.sentence(11, "OUTSIDE: set; STATE: there is no TUESDAY.");
            Due.is("soonest, set " + set + ", no tuesday", new SameTuesday().soonest(set), -3);
            Due.sentence(12, "OUTSIDE: set; STATE: there is no TUESDAY.");
            Due.is("bar, set " + set + ", no tuesday", new SameTuesday().bar(set), -3);
        }
    }

    private static void theLastOne() {
        SameTuesday x = Due.of("s;h0960;h1061,6263");
        x.minutes(10);
        Due.sentence(10, "(the last one of the day, if it has not so many)");
        for (int m : new int[] {9, 10, 11, 59}) {
            Due.is("without a deed, " + m, x.can(m, 1), 1);
            Due.is("by a deed, " + m, x.can(m, 5), 1);
            Due.is("not yet so any more, " + m, x.can(m, 0), 0);
            Due.is("what comes later, " + m, x.can(m, 3), 0);
        }
        Due.is("8", x.can(8, 1), 0);
        x.minutes(60);
        Due.is("10 of a longer day", x.can(10, 3), 1);
        Due.is("10 of a longer day", x.can(10, 1), 0);
    }

    private static void goesOnIsNoMatter() {
        Due.sentence(0, "(one that goes on then, has not ended, is no matter)");
        SameTuesday x = Due.of("s;h0060;m0360,0105");
        Due.is("as it goes on, what it undoes is so", x.can(2, 1), 1);
        Due.is("the mishap comes, as it goes on, too", x.can(3, 0), 1);
        Due.is("it has not ended", x.can(4, 2), 0);
        Due.is("it ends", x.can(5, 2), 1);
        Due.is("or it was not begun", x.can(5, 0), 1);
        Due.is("the day ends as it goes on: it can't", days(x, 5), -9);
        Due.is("the day ends as it ends: it can", days(x, 6), 5);
    }

    private static int days(SameTuesday x, int minutes) {
        x.minutes(minutes);
        return x.soonest(2);
    }

    private static void anyDeeds() {
        Due.sentence(0, "states (sets of FACTS) that there are as a MINUTE ends, by any DEEDS");
        SameTuesday x = Due.of("s;h5960,6161,6261,6361,6461,6561");
        for (int m = 0; m < 7; m++) {
            for (int set = 0; set < 64; set++) {
                boolean can = set % 2 == 0 && Integer.bitCount(set) <= m;
                Due.is("can(" + m + ", " + set + ")", x.can(m, set), can ? 1 : 0);
            }
        }
        Due.is("the happening in the last one", x.can(59, 63), 1);
    }

    /** At least 25 DEEDS, one after another, lead to the state 63: more than the 20 pairs of a ROW. */
    private static void moreDeedsThanARowHas() {
        Due.sentence(0, "states (sets of FACTS) that there are as a MINUTE ends, by any DEEDS");
        SameTuesday x = Due.of("s;m2615;c1035;m3242;h2561;m4563,6261,4041,1311,0101,2421");
        Due.is("can(59, 63)", x.can(59, 63), 1);
        Due.is("bar(63)", x.bar(63), -9);
    }

    private static void waiting() {
        Due.sentence(0, "states (sets of FACTS) that there are as a MINUTE ends, by any DEEDS");
        SameTuesday x = Due.of("s;m3061,6161,1261");
        Due.is("done late enough", x.can(31, 2), 1);
        Due.is("done too soon", x.can(31, 0), 1);
        Due.is("by it another one, then it is gone", x.can(31, 4), 1);
        Due.is("and it again", x.can(31, 6), 1);
    }

    /** The NEED is met in 10 alone, so that a DEED of any number ends in 10 and its LONG, and in no other MINUTE. */
    private static void begunInOneMinuteAlone() {
        Due.sentence(0, "A DEED begun in a MINUTE b ends in b and LONG.");
        String[] ahead = {"", ",5261", ",5261,5262", ",5261,5262,5269", ",5261,5262,5269,5268"};
        for (int lasts = 1; lasts <= 9; lasts++) {
            for (String deeds : ahead) {
                int ends = 10 + lasts;
                SameTuesday x = Due.of("s;h1060;m1160;m" + (ends + 1) + "61" + deeds + ",016" + lasts);
                String what = "long " + lasts + deeds;
                Due.is(what + ", soonest", x.soonest(2), ends);
                Due.is(what + ", a minute later", x.can(ends + 1, 2), 0);
                Due.is(what + ", two minutes later", x.can(ends + 2, 2), 0);
                Due.is(what + ", as the day ends", x.can(59, 2), 0);
            }
        }
    }

    private static void orderWithinAMinute() {
        Due.sentence(0, "a DEED that ends in it (its FACT becomes so, then the one it UNDOES not so); then one may begin");
        SameTuesday x = Due.of("s;m0360;h0301,6063,1261");
        Due.is("it ends behind the mishap", x.can(3, 1), 1);
        Due.is("and behind the happening that needs it", x.can(3, 3), 0);
        Due.is("so that this never comes about", x.soonest(2), -9);
        x.shift(1, 4);
        Due.is("a minute later it does", x.soonest(2), 4);
        Due.is("and one may begin in that minute", x.soonest(4), 5);
        x = Due.of("s;h5965,6001,6011,0261,1361");
        Due.is("what it undoes is undone behind its fact", x.soonest(1), 1);
        x = Due.of("s;h5965,6001,0261");
        Due.is("its own fact, too", x.soonest(1), -9);
        Due.is("so that the next has no need met", x.soonest(4), -9);
    }

    private static void soonestOfNoneAndAll() {
        Due.sentence(0, "the first MINUTE as which ends all of them are so, by some DEEDS");
        SameTuesday x = Due.of("s;h0160;h0261;h0362;h0463;h0564;h5965");
        Due.is("none of them", x.soonest(0), 0);
        Due.is("all of them", x.soonest(63), 59);
        Due.is("all but the last", x.soonest(31), 5);
        x.minutes(59);
        Due.is("all of them, never", x.soonest(63), -9);
        Due.is("none of them, though some are so at once", Due.of("s;h0060;h0061").soonest(0), 0);
        SameTuesday one = Due.of("s;h5960");
        one.minutes(1);
        Due.is("none of them, in a day of 1", one.soonest(0), 0);
    }

    private static void soonestInTheFirstAndTheLast() {
        Due.sentence(0, "the first MINUTE as which ends all of them are so, by some DEEDS");
        SameTuesday x = Due.of("s;h0060;h5961,6269");
        Due.is("in the first one", x.soonest(1), 0);
        Due.is("in the last one", x.soonest(2), 59);
        Due.is("the first that a deed can end in", x.soonest(4), 9);
        x.minutes(10);
        Due.is("it is the last one", x.soonest(4), 9);
        x.minutes(9);
        Due.is("it is behind it", x.soonest(4), -9);
    }

    private static void soonestNever() {
        Due.sentence(11, "SOONEST; NONE: never.");
        SameTuesday x = Due.of("s;h0560;m0960;h1001,6201,1361");
        Due.is("what nothing makes so", x.soonest(32), -9);
        Due.is("what comes to be by what is gone by then", x.soonest(2), -9);
        Due.is("what needs that", x.soonest(8), -9);
        Due.is("both, one of them never", x.soonest(33), -9);
        Due.is("what is so for a time only", x.soonest(1), 5);
    }

    private static void soonestAllAtOnce() {
        Due.sentence(0, "the first MINUTE as which ends all of them are so, by some DEEDS");
        SameTuesday x = Due.of("s;h0560;m0960;h1061;h2060,6201");
        Due.is("both at once", x.soonest(3), 20);
        Due.is("a deed that undoes it", x.soonest(5), 5);
        x.minutes(20);
        Due.is("each is so at some time, but not both", x.soonest(3), -9);
        x = Due.of("s;h5965,6001,6101");
        Due.is("each undoes 0", x.soonest(1), -9);
        x = Due.of("s;h5965,6011,6101");
        Due.is("each undoes the other", x.soonest(3), -9);
        Due.is("one of them", x.soonest(2), 1);
    }

    private static void barOfNoPair() {
        Due.sentence(12, "BAR: 10 times a, and b; NONE.");
        SameTuesday never = Due.of("s;m0060");
        Due.is("set 0", never.bar(0), -9);
        for (int fact = 0; fact < 6; fact++) {
            Due.is("one fact, " + fact, never.bar(1 << fact), -9);
        }
        SameTuesday all = Due.of("s;h0160;h0161;h0162;h0163;h0164;h0165");
        for (int set = 0; set < 64; set++) {
            Due.is("each two can, set " + set, all.bar(set), -9);
        }
    }

    private static void barOfEachPair() {
        Due.sentence(12, "BAR: 10 times a, and b; NONE.");
        SameTuesday never = Due.of("s;m0060");
        for (int a = 0; a < 6; a++) {
            for (int b = a + 1; b < 6; b++) {
                Due.is("pair " + a + ", " + b, never.bar(1 << a | 1 << b), 10 * a + b);
                int above = 63 & -(1 << a);
                Due.is("all from " + a + " on", never.bar(above), 10 * a + a + 1);
            }
        }
    }

    private static void barOfTheFirstPair() {
        Due.sentence(0, "of a set the first pair a, b (a below b) of which not both are so as the day ends, by any DEEDS");
        // Either 0 or 4, either 1 or 2: 3 and 5 are so anyhow.
        SameTuesday x = Due.of("s;h5863;h5865,6041,6401,6121,6211");
        Due.is("0 and 4 ahead of 1 and 2", x.bar(63), 4);
        Due.is("1 and 2 without 0", x.bar(62), 12);
        Due.is("1 and 2 without 4", x.bar(47), 12);
        Due.is("no pair of 0, 1, 3, 5", x.bar(1 | 2 | 8 | 32), -9);
        Due.is("no pair of 2, 4", x.bar(4 | 16), -9);
    }

    private static void barAsTheDayEnds() {
        Due.sentence(0, "of a set the first pair a, b (a below b) of which not both are so as the day ends, by any DEEDS");
        SameTuesday x = Due.of("s;h0560;h0561;m0960");
        Due.is("both were so, but are not as the day ends", x.bar(3), 1);
        Due.is("they can be at once, though", x.soonest(3), 5);
        x.minutes(9);
        Due.is("as a shorter day ends, they are", x.bar(3), -9);
        x = Due.of("s;m5860,6061,6161");
        Due.is("by a deed that ends in the last minute", x.bar(3), -9);
        x.minutes(2);
        Due.is("there is no time for both", x.bar(3), 1);
    }

    private static void changesOfTheDay() {
        SameTuesday x = Due.of("s;h0560,0163");
        Due.sentence(11, "SOONEST; NONE: never.");
        Due.is("by its minute", x.soonest(2), 8);
        x.shift(0, 0);
        Due.is("by a sooner one", x.soonest(2), 3);
        x.shift(0, 56);
        Due.is("by the last one that leaves time", x.soonest(2), 59);
        x.shift(0, 57);
        Due.is("by one that does not", x.soonest(2), -9);
        Due.sentence(12, "BAR: 10 times a, and b; NONE.");
        Due.is("bar", x.bar(3), 1);
        x.shift(0, 56);
        Due.is("bar, sooner", x.bar(3), -9);
        x.minutes(59);
        Due.is("bar, a shorter day", x.bar(3), 1);
        Due.sentence(10, "Whether a state CAN BE as MINUTE m ends");
        Due.is("can, a shorter day", x.can(59, 3), 0);
        x.minutes(60);
        Due.is("can, a longer day", x.can(59, 3), 1);
    }
}
