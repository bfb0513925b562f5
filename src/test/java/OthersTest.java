/** Promises 18 and 19: one more who remembers, and odds. */
public final class OthersTest {
    public static void main(String[] args) {
        othersByAnEmptyRow();
        othersBesideHim();
        endsBehindHis();
        helpsHisRow();
        spoilsHisRow();
        needsByHisRow();
        shorterDays();
        odds();
        oddsByARow();
        refusals();
        Due.end();
    }

    private static void othersByAnEmptyRow() {
        SameTuesday x = Due.of("s;h1060,6163,0261");
        Due.is("the deed of three minutes, in 0 .. 56", Due.others(x, 3, -1), 57);
        Due.is("the first", Due.others(x, 3, 0), 0);
        Due.is("the second", Due.others(x, 3, 1), 10);
        Due.is("the last", Due.others(x, 3, 56), 560);
        Due.is("no more", Due.others(x, 3, 57), -9);
        Due.is("the deed of one minute, in 10 .. 58", Due.others(x, 5, -1), 49);
        Due.is("the first", Due.others(x, 5, 0), 101);
        Due.is("the last", Due.others(x, 5, 48), 581);
        Due.is("no more", Due.others(x, 5, 49), -9);
        Due.is("as it ends by itself: he does do one", Due.others(x, 1, -1), 0);
        Due.is("none", Due.others(x, 63, 0), -9);
        Due.is("far", Due.others(x, 63, Integer.MAX_VALUE), -9);
        x = Due.of("s;h1060,6061,6169");
        Due.is("one that does what is so anyhow", Due.others(x, 1, -1), 59);
        x = Due.of("s;h1060,6061,6069");
        Due.is("rising by minutes, then deeds", Due.others(x, 1, 1), 1);
        Due.is("rising by minutes, then deeds", Due.others(x, 1, 2), 10);
        Due.is("as many as end in the day", Due.others(x, 1, -1), 59 + 51);
    }

    private static void othersBesideHim() {
        SameTuesday x = Due.of("s;h5965,6169,6269");
        Due.is("both go on at once", Due.others(x, 2 | 4 | 32, -1, 10, 0), 51);
        Due.is("in the same minute, too", Due.others(x, 2 | 4 | 32, 10, 10, 0), 101);
        Due.is("the same deed", Due.others(x, 2 | 32, -1, 10, 0), 51);
    }

    private static void endsBehindHis() {
        SameTuesday x = Due.of("s;h5965,6013,6103");
        // Each undoes what the other does; ends in one minute tell whose end is the later.
        Due.is("in one minute his is undone", Due.others(x, 2 | 32, 0, 20, 0), 201);
        Due.is("sooner the other's is undone", Due.others(x, 1 | 32, 39, 20, 0), 191);
        Due.is("in one minute, not his", Due.others(x, 1 | 32, 40, 20, 0), 200);
        Due.is("how many are undone", Due.others(x, 1 | 32, -1, 20, 0), 57 + 20);
        Due.is("how many undo", Due.others(x, 2 | 32, -1, 20, 0), 37);
    }

    private static void helpsHisRow() {
        SameTuesday x = Due.of("s;h5965,6063,0161");
        Due.is("he could not", Due.ends(x, 10, 1), 32);
        Due.is("he can, if it ends by then", Due.others(x, 35, -1, 10, 1), 8);
        Due.is("in that minute, too", Due.others(x, 35, 7, 10, 1), 70);
        Due.is("later he can't", Due.others(x, 33, 0, 10, 1), 80);
    }

    private static void spoilsHisRow() {
        SameTuesday x = Due.of("s;h0060,6204,0161");
        Due.is("he could", Due.ends(x, 10, 1), 3);
        Due.is("he can't, if it ends by then", Due.others(x, 4, -1, 10, 1), 7);
        Due.is("in that minute, too", Due.others(x, 4, 6, 10, 1), 60);
        Due.is("later he can", Due.others(x, 6, 0, 10, 1), 70);
    }

    private static void needsByHisRow() {
        SameTuesday x = Due.of("s;h5965,6063,0161");
        Due.is("by what he does", Due.others(x, 35, 0, 10, 0), 131);
        Due.is("by nothing", Due.others(x, 35, 0), -9);
        x = Due.of("s;h5965,6161,1261");
        Due.is("the need is met as his deed ends in that minute", Due.others(x, 38, 0, 10, 0), 111);
    }

    private static void shorterDays() {
        SameTuesday x = Due.of("s;h0060,6163");
        x.minutes(10);
        Due.is("as many as end in the day", Due.others(x, 3, -1), 7);
        Due.is("the last", Due.others(x, 3, 6), 60);
        x.minutes(3);
        Due.is("none does", Due.others(x, 3, -1), 0);
        x = Due.of("s;h0060");
        Due.is("no deeds", Due.others(x, 1, -1), 0);
    }

    private static void odds() {
        SameTuesday x = Due.of("s;h1060;h2061;h3062;h4001");
        Due.is("the empty set", Due.odds(x, 0), 1001);
        Due.is("0", Due.odds(x, 1), 1002);
        Due.is("1: two ways", Due.odds(x, 2), 5008);
        Due.is("0 and 1", Due.odds(x, 3), 3008);
        Due.is("0 and 1 and 2", Due.odds(x, 7), 3016);
        Due.is("never", Due.odds(x, 8), 1);
        x.minutes(30);
        Due.is("those behind the day count, too", Due.odds(x, 3), 1004);
        x = Due.of("s;h1060;h2060;h3060;h4060;h5060;h5160");
        Due.is("63 of 64", Due.odds(x, 1), 63064);
        x = Due.of("s;c1060;c2060");
        Due.is("one of two", Due.odds(x, 1), 1002);
    }

    private static void oddsByARow() {
        SameTuesday x = Due.of("s;h1060;m2060;h3061,0261,6069");
        Due.is("the deed, if its need is met", Due.odds(x, 4, 12, 0), 1002);
        Due.is("if the mishap is not there", Due.odds(x, 4, 22, 0), 1004);
        Due.is("always", Due.odds(x, 1, 22, 1), 1001);
        Due.is("with a happening beside", Due.odds(x, 2 | 4, 12, 0), 1004);
        x = Due.of("s;h1060;m2060;h3061,0265,6069");
        Due.is("what is left out lets another one be", Due.odds(x, 1, 12, 0, 13, 1), 3004);
    }

    private static void refusals() {
        SameTuesday x = new SameTuesday();
        asHangs(x, "no sheet", 4, 0, 0, 0, -1, 0);
        asHangs(x, "no lane", 0, 3, 0, 0, -2, 0);
        asHangs(x, "n", 0, 0, 0, 21, -2, 0);
        asHangs(x, "n", 0, 0, 0, -1, -2, 0);
        asHangs(x, "nothing", 0, 0, 0, 0, Due.NULL, 1);
        x.sheet(0, 1, 4);
        asHangs(x, "another lane", 0, 0, 99, 1, Due.CAST, 2);
        asHangs(x, "too many", 0, 1, 0, 3, Due.INDEX, 3);
        asHangs(x, "beyond", 0, 1, 5, 0, Due.INDEX, 3);
        asHangs(x, "no tuesday", 0, 1, 0, 1, -3, 0);
        Due.fault("a fault", x, x.others(0, 0, 0, 0, 0, 0), Due.CAST, 2);
        Due.fault("k", x, x.others(64, -2, 4, 3, 0, 99), -1, 0);
        Due.fault("k", x, x.others(0, -2, 0, 0, 0, 0), -1, 0);
        Due.fault("sheet ahead of set", x, x.others(64, 0, 4, 0, 0, 0), -1, 0);
        Due.fault("set", x, x.others(64, 0, 3, 0, 0, 0), -2, 0);
        Due.fault("set", x, x.others(-1, 0, 3, 0, 0, 0), -2, 0);
        long lost = SameTuesday.LOST;
        Due.fault("set", x, x.odds(64, 3, 0, 0, 0, 0), lost, 0);
        Due.fault("set", x, x.odds(-1, 3, 0, 0, 0, 0), lost, 0);
        Due.fault("which", x, x.odds(0, 3, 0, 0, 0, 2), lost, 0);
        Due.fault("which", x, x.odds(0, 3, 0, 0, 0, -1), lost, 0);
        x = Due.of("s;h1060,6163");
        Due.row(x, 60, 0, 5, 1, 5, 0);
        asHangs(x, "a minute", 1, 2, 0, 1, -2, 0);
        asHangs(x, "a deed", 1, 2, 2, 1, -1, 0);
        Due.fault("fault", x, x.odds(0, 1, 2, 7, 0, 0), lost, 3);
        Due.fault("well", x, x.odds(0, 1, 2, 4, 1, 0), 1, 0);
    }

    private static void asHangs(SameTuesday x, String what, int sheet, int lane, int i, int n, int due, int fault) {
        Due.fault("others, " + what, x, x.others(0, -1, sheet, lane, i, n), due, fault);
        Due.fault("others, " + what, x, x.others(63, 7, sheet, lane, i, n), due, fault);
        Due.fault("odds, " + what, x, x.odds(0, sheet, lane, i, n, 0), SameTuesday.LOST, fault);
        Due.fault("odds, " + what, x, x.odds(63, sheet, lane, i, n, 1), SameTuesday.LOST, fault);
    }
}
