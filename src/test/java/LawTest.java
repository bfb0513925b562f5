/** Promises 13 to 17: days lived, and what the law can be. */
public final class LawTest {
    public static void main(String[] args) {
        days();
        forget();
        laws();
        fewest();
        next();
        nextOfSeveral();
        refusals();
        Due.end();
    }

    private static void days() {
        SameTuesday x = Due.of("s;h0360");
        for (int k = 0; k < 8; k++) {
            Due.is("day " + k, x.day(9 * k), k);
            Due.is("days", x.many(3), k + 1);
        }
        Due.is("full", x.day(0), -4);
        Due.is("outside ahead of full", x.day(64), -2);
        Due.is("days", x.many(3), 8);
        Due.is("the last one is forgotten", x.forget(1), 7);
        Due.is("not full any more", x.day(63), 7);
    }

    private static void forget() {
        SameTuesday x = Due.of("s;h0360");
        Due.is("none of none", x.forget(0), 0);
        Due.is("one of none", x.forget(1), -2);
        x.day(1);
        x.day(3);
        x.day(63);
        Due.is("laws", x.laws(-1), 0);
        Due.is("below", x.forget(-1), -2);
        Due.is("above", x.forget(4), -2);
        Due.is("days", x.many(3), 3);
        Due.is("none", x.forget(0), 3);
        Due.is("the last one", x.forget(1), 2);
        Due.is("not the first one", x.laws(-1), 60);
        Due.is("all", x.forget(2), 0);
        Due.is("days", x.many(3), 0);
        Due.is("laws", x.laws(-1), 64);
    }

    private static void laws() {
        SameTuesday x = Due.of("s;h0360");
        Due.is("all", x.laws(-1), 64);
        Due.is("the first", x.laws(0), 0);
        Due.is("the last", x.laws(63), 63);
        Due.is("none", x.laws(64), -9);
        Due.is("far", x.laws(Integer.MAX_VALUE), -9);
        x.day(0);
        Due.is("without that of no facts", x.laws(-1), 63);
        Due.is("the first", x.laws(0), 1);
        x.day(62);
        Due.is("those with fact 0", x.laws(-1), 32);
        for (int k = 0; k < 32; k++) {
            Due.is("law " + k, x.laws(k), 2 * k + 1);
        }
        Due.is("no more", x.laws(32), -9);
        x.day(31);
        Due.is("those with facts 0 and 5", x.laws(-1), 16);
        Due.is("the first", x.laws(0), 33);
        Due.is("the second", x.laws(1), 35);
        x.day(63);
        Due.is("none", x.laws(-1), 0);
        Due.is("no first", x.laws(0), -9);
    }

    private static void fewest() {
        SameTuesday x = Due.of("s;h0360");
        Due.is("no facts", x.fewest(), 0);
        x.day(0);
        Due.is("one", x.fewest(), 1);
        x.day(1);
        Due.is("another one", x.fewest(), 2);
        x.day(2 | 4 | 8);
        Due.is("one, though 3 is less", x.fewest(), 16);
        x.day(16 | 32);
        Due.is("two, the least", x.fewest(), 3);
        x.day(7);
        Due.is("two, though 11 is less than 17", x.fewest(), 9);
        x.day(63);
        Due.is("none", x.fewest(), -9);
    }

    private static void next() {
        SameTuesday x = Due.of("s;h0360,6161,6261,6361,6461,6561");
        Due.is("of 64 halves: the least state of five facts", x.next(0), 31);
        Due.is("32", x.next(1), 32);
        x.day(31);
        Due.is("those with fact 5, halves: four more", x.next(0), 32 | 15);
        Due.is("16", x.next(1), 16);
        x.day(47);
        Due.is("those with facts 4 and 5", x.next(0), 48 | 7);
        Due.is("8", x.next(1), 8);
        x.day(55);
        Due.is("days", x.many(3), 3);
        x.day(62);
        x.forget(2);
        Due.is("as it was", x.next(0), 48 | 7);
        x.day(63);
        Due.is("no laws: the least state", x.next(0), 1);
        Due.is("0", x.next(1), 0);
    }

    private static void nextOfSeveral() {
        SameTuesday x = Due.of("s;h0365");
        Due.is("the one state there is", x.next(0), 32);
        Due.is("0 and 32 are within it", x.next(1), 2);
        x.day(32);
        Due.is("the one state there is", x.next(0), 32);
        Due.is("none is within it", x.next(1), 0);
        x = Due.of("s;h5960,6261,6161");
        Due.is("three facts", x.next(0), 7);
        Due.is("of 64", x.next(1), 8);
        x.day(5);
        x.day(3);
        Due.is("7 has 6 and 7", x.next(0), 7);
        Due.is("2", x.next(1), 2);
        x.day(7);
        Due.is("0 each: the least state", x.next(0), 1);
        x.minutes(59);
        Due.is("a shorter day has other states", x.next(0), 0);
        x.forget(3);
        Due.is("without fact 0", x.next(0), 6);
        Due.is("of 64", x.next(1), 4);
    }

    private static void refusals() {
        SameTuesday x = new SameTuesday();
        Due.is("day", x.day(64), -2);
        Due.is("day", x.day(-1), -2);
        Due.is("day", x.day(0), -3);
        Due.is("forget", x.forget(0), 0);
        Due.is("forget", x.forget(1), -2);
        Due.is("forget", x.forget(-1), -2);
        Due.is("laws", x.laws(-2), -1);
        Due.is("laws", x.laws(-1), -3);
        Due.is("laws", x.laws(0), -3);
        Due.is("fewest", x.fewest(), -3);
        Due.is("next", x.next(2), -2);
        Due.is("next", x.next(-1), -2);
        Due.is("next", x.next(0), -3);
        Due.is("next", x.next(1), -3);
        x = Due.of("s;h0360");
        Due.is("day", x.day(64), -2);
        Due.is("day", x.day(-1), -2);
        Due.is("days", x.many(3), 0);
        Due.is("laws", x.laws(-2), -1);
        Due.is("laws", x.laws(Integer.MIN_VALUE), -1);
        Due.is("next", x.next(2), -2);
        Due.is("next", x.next(-1), -2);
        Due.is("a call that names no fault leaves it", x.put(3, 0, 0), Due.NULL);
        x.day(0);
        x.laws(0);
        x.next(3);
        x.forget(9);
        Due.is("fault", x.fault(), 1);
    }
}
