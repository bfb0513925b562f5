/** DAYS lived and the LAW at their edges (promises 13 to 17). */
public final class LawEdgesTest {
    private static final int LEAST = Integer.MIN_VALUE, MOST = Integer.MAX_VALUE;
    private static final String ANY = "s;h0360,6161,6261,6361,6461,6561";

    public static void main(String[] args) {
        setsOfDays();
        numbersOfDays();
        aNinthDay();
        forgetLast();
        forgetAsManyAsThereAre();
        forgottenAndLivedAgain();
        lawsOfNoDays();
        lawsByTheLeastAndTheGreatestDay();
        lawsWithinOneDay();
        lawsAreTold();
        lawsByEightDays();
        fewest();
        fewestOfNone();
        nextOfNoDays();
        nextOfNoLaws();
        nextTheLesserNumber();
        nextOfSeveral();
        nextOfStatesThatCanBe();
        withoutATuesday();
        Due.end();
    }

    private static void setsOfDays() {
        SameTuesday x = Due.of(ANY);
        Due.sentence(13, "OUTSIDE: set; STATE: there is no TUESDAY; FULL.");
        for (int set : new int[] {-1, 64, LEAST, MOST}) {
            Due.is("day " + set, x.day(set), -2);
            Due.is("day " + set + ", no tuesday", new SameTuesday().day(set), -2);
        }
        Due.is("days", x.many(3), 0);
        Due.is("day 0", x.day(0), 0);
        Due.is("day 63", x.day(63), 1);
        Due.is("day 0, no tuesday", new SameTuesday().day(0), -3);
        Due.is("day 63, no tuesday", new SameTuesday().day(63), -3);
    }

    private static void numbersOfDays() {
        SameTuesday x = Due.of(ANY);
        Due.sentence(0, "numbered by how many there are");
        for (int k = 0; k < 8; k++) {
            Due.is("a day behind " + k, x.day(5), k);
            Due.is("days", x.many(3), k + 1);
        }
    }

    private static void aNinthDay() {
        SameTuesday x = eight();
        Due.sentence(0, "DAYS lived, 8 at most");
        int laws = x.laws(-1);
        Due.is("the ninth", x.day(63), -4);
        Due.is("the ninth, another one", x.day(0), -4);
        Due.sentence(13, "OUTSIDE: set; STATE: there is no TUESDAY; FULL.");
        Due.is("the ninth, no set", x.day(64), -2);
        Due.is("the ninth, no set", x.day(-1), -2);
        Due.is("days", x.many(3), 8);
        Due.is("laws stay", x.laws(-1), laws);
        Due.is("one is forgotten", x.forget(1), 7);
        Due.is("the eighth again", x.day(63), 7);
        Due.is("the ninth again", x.day(1), -4);
        Due.is("laws", x.laws(-1), 0);
    }

    /** Each of its eight days forbids laws that no other one does. */
    private static SameTuesday eight() {
        SameTuesday x = Due.of(ANY);
        int[] days = {3, 12, 48, 5, 10, 17, 34, 20};
        for (int k = 0; k < days.length; k++) {
            Due.is("day " + k, x.day(days[k]), k);
        }
        return x;
    }

    private static void forgetLast() {
        SameTuesday x = eight();
        Due.sentence(14, "The last k DAYS (0 .. as many as there are) are forgotten: how many are left.");
        // No fact, each of the six alone, and each day's own two.
        Due.is("by eight", x.laws(-1), 64 - 15);
        for (int k = 7; k >= 0; k--) {
            Due.is("the last one", x.forget(1), k);
            Due.is("days", x.many(3), k);
            Due.is("laws by " + k + " days", x.laws(-1), lawsBy(k));
        }
        Due.is("no more", x.forget(1), -2);
    }

    /** How many laws the first k days of eight() leave. */
    private static int lawsBy(int k) {
        int[] forbidden = {0, 4, 7, 10, 11, 12, 13, 14};
        return 64 - forbidden[k];
    }

    private static void forgetAsManyAsThereAre() {
        Due.sentence(14, "The last k DAYS (0 .. as many as there are) are forgotten: how many are left.");
        for (int k = 0; k <= 8; k++) {
            SameTuesday x = eight();
            Due.is("forget(" + k + ") of 8", x.forget(k), 8 - k);
            Due.is("days", x.many(3), 8 - k);
            Due.is("as many again, and 1", x.forget(9 - k), -2);
            Due.is("all", x.forget(8 - k), 0);
            Due.is("none of none", x.forget(0), 0);
            Due.is("one of none", x.forget(1), -2);
        }
        SameTuesday x = eight();
        for (int k : new int[] {-1, 9, LEAST, MOST}) {
            Due.is("forget(" + k + ") of 8", x.forget(k), -2);
            Due.is("forget(" + k + "), no tuesday", new SameTuesday().forget(k), -2);
        }
        Due.is("days", x.many(3), 8);
        Due.is("none, no tuesday", new SameTuesday().forget(0), 0);
        Due.is("one, no tuesday", new SameTuesday().forget(1), -2);
    }

    private static void forgottenAndLivedAgain() {
        SameTuesday x = eight();
        Due.sentence(14, "The last k DAYS (0 .. as many as there are) are forgotten: how many are left.");
        Due.is("the last six", x.forget(6), 2);
        Due.is("another one", x.day(63), 2);
        Due.is("it is forgotten again", x.forget(1), 2);
        Due.is("the first two are left", x.laws(-1), 64 - 7);
        Due.is("they forbid 3 and 4", x.laws(0), 5);
    }

    private static void lawsOfNoDays() {
        SameTuesday x = Due.of(ANY);
        Due.sentence(15, "LAWS: how many (k -1), the k-th; NONE: there are fewer.");
        Due.is("how many", x.laws(-1), 64);
        for (int k = 0; k < 64; k++) {
            Due.is("law " + k, x.laws(k), k);
        }
        Due.is("law 64", x.laws(64), -9);
        Due.is("law 65", x.laws(65), -9);
        Due.is("a law far off", x.laws(MOST), -9);
        Due.sentence(15, "UNKNOWN: k below -1; STATE: there is no TUESDAY.");
        for (int k : new int[] {-2, -3, LEAST}) {
            Due.is("law " + k, x.laws(k), -1);
            Due.is("law " + k + ", no tuesday", new SameTuesday().laws(k), -1);
        }
        for (int k : new int[] {-1, 0, 63, 64, MOST}) {
            Due.is("law " + k + ", no tuesday", new SameTuesday().laws(k), -3);
        }
    }

    private static void lawsByTheLeastAndTheGreatestDay() {
        SameTuesday x = Due.of(ANY);
        Due.sentence(0, "sets (0 .. 63) that are not all within one of the DAYS lived, rising");
        x.day(0);
        Due.is("all but 0", x.laws(-1), 63);
        Due.is("the first", x.laws(0), 1);
        Due.is("the last", x.laws(62), 63);
        Due.is("no more", x.laws(63), -9);
        x.day(63);
        Due.is("none", x.laws(-1), 0);
        Due.sentence(15, "NONE: there are fewer");
        Due.is("the first of none", x.laws(0), -9);
    }

    private static void lawsWithinOneDay() {
        SameTuesday x = Due.of(ANY);
        Due.sentence(0, "sets (0 .. 63) that are not all within one of the DAYS lived, rising");
        x.day(7);
        x.day(56);
        Due.is("those within 7, those within 56", x.laws(-1), 64 - 8 - 8 + 1);
        Due.is("9 is within both, but in none of them", x.laws(0), 9);
        x.day(7);
        Due.is("the same day again", x.laws(-1), 49);
        x.day(3);
        Due.is("a day within another one", x.laws(-1), 49);
        x.day(62);
        Due.is("those that have fact 0 and one of 3 to 5", x.laws(-1), 28);
    }

    private static void lawsAreTold() {
        SameTuesday x = Due.of(ANY);
        Due.sentence(0, "sets (0 .. 63) that are not all within one of the DAYS lived, rising");
        for (int day : new int[] {31, 47, 55}) {
            x.day(day);
        }
        for (int k = 0; k < 8; k++) {
            Due.is("law " + k, x.laws(k), 56 + k);
        }
        Due.is("no more", x.laws(8), -9);
        Due.is("how many", x.laws(-1), 8);
    }

    private static void lawsByEightDays() {
        SameTuesday x = Due.of(ANY);
        Due.sentence(0, "sets (0 .. 63) that are not all within one of the DAYS lived, rising");
        for (int day : new int[] {0, 1, 62, 61, 59, 55, 47, 31}) {
            x.day(day);
        }
        Due.is("by the third to the eighth but 63 all are out", x.laws(-1), 1);
        Due.is("63", x.laws(0), 63);
        Due.is("no more", x.laws(1), -9);
        Due.is("fewest", x.fewest(), 63);
        x.forget(1);
        Due.is("the eighth counts, too", x.laws(-1), 2);
        Due.is("31", x.laws(0), 31);
    }

    private static void fewest() {
        SameTuesday x = Due.of(ANY);
        Due.sentence(0, "of these the one of the fewest FACTS: of several the least");
        Due.is("no facts", x.fewest(), 0);
        x.day(0);
        Due.is("one of six", x.fewest(), 1);
        x.day(3);
        Due.is("4, though 5 and 6 are more facts", x.fewest(), 4);
        x.day(4 | 8 | 16);
        Due.is("32 has one, 5 is less and has two", x.fewest(), 32);
        x.day(32);
        Due.is("two, the least", x.fewest(), 5);
        x.day(5);
        Due.is("two, the least", x.fewest(), 6);
        x.day(62);
        Due.is("two, 9 is less than 17", x.fewest(), 9);
        x.day(47);
        Due.is("17", x.fewest(), 17);
        x.day(31);
        Due.is("three: 49", x.fewest(), 49);
        Due.is("full", x.day(1), -4);
    }

    private static void fewestOfNone() {
        SameTuesday x = Due.of(ANY);
        Due.sentence(16, "FEWEST; NONE: there is none. STATE: there is no TUESDAY.");
        x.day(63);
        Due.is("none", x.fewest(), -9);
        Due.is("it is forgotten", x.forget(1), 0);
        Due.is("one of them again", x.fewest(), 0);
        Due.is("no tuesday", new SameTuesday().fewest(), -3);
    }

    private static void nextOfNoDays() {
        SameTuesday x = Due.of(ANY);
        Due.sentence(17, "NEXT: the state (what 0), the lesser number (1). OUTSIDE; STATE: there is no TUESDAY.");
        Due.is("the state", x.next(0), 31);
        Due.is("the lesser number", x.next(1), 32);
        for (int what : new int[] {-1, 2, LEAST, MOST}) {
            Due.is("what " + what, x.next(what), -2);
            Due.is("what " + what + ", no tuesday", new SameTuesday().next(what), -2);
        }
        Due.is("the state, no tuesday", new SameTuesday().next(0), -3);
        Due.is("the number, no tuesday", new SameTuesday().next(1), -3);
    }

    private static void nextOfNoLaws() {
        SameTuesday x = Due.of("s;m0360,6161,6261");
        x.day(63);
        Due.sentence(0, "the lesser of both numbers is the greatest: of several the least state");
        Due.is("the least state", x.next(0), 0);
        Due.is("none are parted", x.next(1), 0);
        x = Due.of("s;h5965;h5964,6161,6261");
        x.day(63);
        Due.is("the least state that can be", x.next(0), 48);
        Due.is("none are parted", x.next(1), 0);
    }

    private static void nextTheLesserNumber() {
        Due.sentence(0, "so many are all within it, the others not: the lesser of both numbers is the greatest");
        SameTuesday x = Due.of("s;h5960;h5961;h5962;h5963;h5964;h5965");
        Due.is("the one state: all are within it", x.next(0), 63);
        Due.is("no others", x.next(1), 0);
        x = Due.of("s;m5960");
        Due.is("the one state: 0 is within it", x.next(0), 0);
        Due.is("one", x.next(1), 1);
        x.day(0);
        Due.is("the one state", x.next(0), 0);
        Due.is("none is within it", x.next(1), 0);
        // 63 has all 64 within, 15 just 16: the others are the lesser for the one, those within for the other.
        x = Due.of("s;h5960;h5961;h5962;h5963,6461,6561");
        Due.is("31, not 63", x.next(0), 31);
        Due.is("32", x.next(1), 32);
        x.day(31);
        Due.is("63 has all that are left, 15 and 31 none", x.next(0), 47);
        Due.is("16", x.next(1), 16);
    }

    private static void nextOfSeveral() {
        Due.sentence(0, "the lesser of both numbers is the greatest: of several the least state");
        SameTuesday x = Due.of("s;m0060,6061,6161,6261");
        Due.is("three facts", x.next(0), 7);
        // All three at once can't be: what makes one of them so undoes another one.
        x = Due.of("s;m0060,6021,6201,6121,6211");
        Due.is("of 3, 5, 6 the least", x.next(0), 3);
        Due.is("four", x.next(1), 4);
        x.day(3);
        Due.is("of 5, 6 the least", x.next(0), 5);
        Due.is("two", x.next(1), 2);
        x.day(4);
        Due.is("of 5, 6 the least", x.next(0), 5);
        Due.is("one", x.next(1), 1);
        x.day(5);
        Due.is("6 alone", x.next(0), 6);
        Due.is("one", x.next(1), 1);
        x.day(6);
        Due.is("of all the least", x.next(0), 0);
        Due.is("none", x.next(1), 0);
    }

    private static void nextOfStatesThatCanBe() {
        Due.sentence(0, "of states that CAN BE as the last MINUTE ends");
        SameTuesday x = Due.of("s;h0960;h1061");
        Due.is("as 59 ends", x.next(0), 3);
        Due.is("of 64", x.next(1), 4);
        x.minutes(10);
        Due.is("as 9 ends", x.next(0), 1);
        Due.is("of 64", x.next(1), 2);
        x.minutes(9);
        Due.is("as 8 ends", x.next(0), 0);
        Due.is("of 64", x.next(1), 1);
        x.shift(1, 8);
        Due.is("shifted", x.next(0), 2);
    }

    private static void withoutATuesday() {
        SameTuesday x = new SameTuesday();
        Due.sentence(30, "3 DAYS lived (0 all without a TUESDAY)");
        Due.is("a day", x.day(1), -3);
        Due.is("days", x.many(3), 0);
        Due.is("minutes", x.many(2), 0);
    }
}
