/** Promises 10 to 12: what can be so by when. */
public final class CanBeTest {
    public static void main(String[] args) {
        can();
        goingOn();
        begunOnlyIfItEnds();
        manyDeeds();
        soonest();
        bar();
        changes();
        refusals();
        Due.end();
    }

    private static void can() {
        SameTuesday x = Due.of("s;h0260;c0461,0263");
        int[][] due = {{0}, {0}, {1}, {1}, {3}, {3, 7}, {3, 7}};
        for (int m = 0; m < due.length; m++) {
            for (int set = 0; set < 64; set++) {
                int so = 0;
                for (int state : due[m]) {
                    so |= state == set ? 1 : 0;
                }
                Due.is("can(" + m + ", " + set + ")", x.can(m, set), so);
            }
        }
    }

    private static void goingOn() {
        SameTuesday x = Due.of("s;m0360,6061,6169");
        Due.is("none has ended", x.can(0, 1), 0);
        Due.is("ended in 1", x.can(1, 1), 1);
        Due.is("or not done", x.can(1, 0), 1);
        Due.is("the mishap, and the deed behind it", x.can(3, 1), 1);
        Due.is("the mishap", x.can(3, 0), 1);
        Due.is("begun in 0, ended in 9", x.can(9, 2), 1);
        Due.is("not sooner", x.can(8, 2), 0);
        Due.is("both not yet, for none begins while one goes on", x.can(9, 3), 0);
        Due.is("both, one behind the other", x.can(10, 3), 1);
        x = Due.of("s;h0060;m0560,0169");
        Due.is("a mishap while one goes on", x.can(9, 2), 1);
        Due.is("it is not passed over", x.can(9, 3), 0);
        x = Due.of("s;h0560,0102");
        Due.is("its fact stays, as one goes on that undoes it", x.can(6, 1), 1);
        Due.is("until it ends", x.can(7, 2), 1);
    }

    private static void begunOnlyIfItEnds() {
        SameTuesday x = Due.of("s;h5960,6163");
        x.minutes(3);
        Due.is("it does not end in the day", x.can(2, 2), 0);
        Due.is("never", x.soonest(2), -9);
        x.minutes(4);
        Due.is("it ends in the last minute", x.can(3, 2), 1);
        Due.is("then", x.soonest(2), 3);
        Due.is("as it has not so many", x.can(59, 2), 1);
        Due.is("not done", x.can(59, 0), 1);
    }

    /** More deeds than a row that is lived may have. */
    private static void manyDeeds() {
        SameTuesday x = Due.of("s;h5965,6061,0101,1211,2321,3431");
        Due.is("the fifth of a chain", x.soonest(16), 5);
        Due.is("with the first again", x.soonest(17), 6);
        Due.is("with the second", x.soonest(18), 7);
        Due.is("no more than its length", x.soonest(16 | 8), 9);
        Due.is("all five", x.soonest(31), 15);
        Due.is("the last, as one goes on", x.can(59, 32), 1);
    }

    private static void soonest() {
        SameTuesday x = Due.of("s;h0360;m1060;h2061,0262");
        Due.is("none of them", x.soonest(0), 0);
        Due.is("0", x.soonest(1), 3);
        Due.is("1", x.soonest(2), 20);
        Due.is("2", x.soonest(4), 5);
        Due.is("0 and 2", x.soonest(5), 5);
        Due.is("0 and 1, one is gone by then", x.soonest(3), -9);
        Due.is("1 and 2", x.soonest(6), 20);
        Due.is("5", x.soonest(32), -9);
        Due.is("all", x.soonest(63), -9);
        x.shift(0, 0);
        Due.is("in the first minute", x.soonest(1), 0);
    }

    private static void bar() {
        SameTuesday x = Due.of("s;h0360;m1060;h2061,0262,6301,1411");
        Due.is("no pair", x.bar(0), -9);
        Due.is("one fact that never is", x.bar(32), -9);
        Due.is("0 is gone", x.bar(3), 1);
        Due.is("the first pair", x.bar(63), 1);
        Due.is("2 and 3", x.bar(4 | 8), -9);
        Due.is("1 and 4", x.bar(2 | 16), 14);
        Due.is("1, 2 and 4", x.bar(2 | 4 | 16), 14);
        Due.is("2 to 4", x.bar(4 | 8 | 16), -9);
        Due.is("first by the lesser one", x.bar(1 | 2 | 4 | 16), 1);
        Due.is("2 and 5", x.bar(4 | 32), 25);
        Due.is("4 and 5", x.bar(16 | 32), 45);
        Due.is("1, 3, 4 and 5: by 1 first, then the least", x.bar(2 | 8 | 16 | 32), 14);
        Due.is("1, 2, 3 and 5", x.bar(2 | 4 | 8 | 32), 15);
        x = Due.of("s;h0061;h0062;h0063");
        Due.is("a pair of the least one, ahead of a pair of lesser ones both", x.bar(2 | 4 | 8 | 16), 14);
        x = Due.of("s;h0060;h0063;c0162,2161,3261");
        Due.is("0 and 4 come ahead of 1 and 2", x.bar(63), 4);
    }

    private static void changes() {
        SameTuesday x = Due.of("s;h0360;h2061,0262");
        Due.is("can", x.can(3, 1), 1);
        x.shift(0, 7);
        Due.is("can, shifted", x.can(3, 1), 0);
        Due.is("soonest, shifted", x.soonest(4), 9);
        x.minutes(9);
        Due.is("soonest, by a shorter day", x.soonest(4), -9);
        Due.is("bar, by a shorter day", x.bar(7), 1);
        x.minutes(60);
        Due.is("soonest, by a longer day", x.soonest(4), 9);
        Due.is("bar, by a longer day", x.bar(7), -9);
        Due.text(x, "s;h0562");
        Due.is("soonest, by another text", x.soonest(4), 5);
        Due.is("can, by another text", x.can(3, 1), 0);
    }

    private static void refusals() {
        SameTuesday x = new SameTuesday();
        Due.is("can m", x.can(60, 0), -2);
        Due.is("can m", x.can(-1, 0), -2);
        Due.is("can set", x.can(0, 64), -2);
        Due.is("can set", x.can(0, -1), -2);
        Due.is("can", x.can(0, 0), -3);
        Due.is("soonest set", x.soonest(64), -2);
        Due.is("soonest set", x.soonest(-1), -2);
        Due.is("soonest", x.soonest(63), -3);
        Due.is("bar set", x.bar(64), -2);
        Due.is("bar set", x.bar(-1), -2);
        Due.is("bar", x.bar(63), -3);
        x = Due.of("s;h0360");
        Due.is("can m", x.can(60, 0), -2);
        Due.is("can m", x.can(-1, 0), -2);
        Due.is("can set", x.can(0, 64), -2);
        Due.is("can set", x.can(0, Integer.MIN_VALUE), -2);
        Due.is("soonest set", x.soonest(64), -2);
        Due.is("soonest set", x.soonest(-1), -2);
        Due.is("bar set", x.bar(64), -2);
        Due.is("bar set", x.bar(-1), -2);
        x.minutes(2);
        Due.is("m of the longest day", x.can(59, 0), 1);
    }
}
