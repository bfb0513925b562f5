/** OTHERS and ODDS at their edges (promises 18 and 19). */
public final class OthersEdgesTest {
    private static final long LOST = SameTuesday.LOST;
    private static final int LEAST = Integer.MIN_VALUE, MOST = Integer.MAX_VALUE;

    public static void main(String[] args) {
        placesAsked();
        setsAsked();
        endsInJustTheSet();
        theOtherDoesOne();
        risingByMinutesThenDeeds();
        firstAndLastMinute();
        ofEachLong();
        shorterDays();
        besideHim();
        endsBehindHis();
        begunByItsNeed();
        hisRowBesideTheOther();
        anotherThanHisRow();
        noDeeds();
        rowsOfOthers();
        shareOfNone();
        shareOfAll();
        leastTerms();
        eachHappening();
        rowsByOdds();
        shorterDaysByOdds();
        oddsAsked();
        Due.end();
    }

    private static void placesAsked() {
        SameTuesday x = Due.of("s;h5960,6163");
        Due.sentence(18, "how many (k -1), the k-th: 10 times the MINUTE, and the DEED; NONE: there are fewer.");
        Due.is("how many", Due.others(x, 3, -1), 57);
        Due.is("the first", Due.others(x, 3, 0), 0);
        Due.is("the last", Due.others(x, 3, 56), 560);
        Due.is("one more", Due.others(x, 3, 57), -9);
        Due.is("far", Due.others(x, 3, MOST), -9);
        Due.is("the first of none", Due.others(x, 2, 0), -9);
        Due.is("how many of none", Due.others(x, 2, -1), 0);
        Due.sentence(18, "UNKNOWN: k below -1, SHEET; OUTSIDE: set; else as hangs().");
        for (int k : new int[] {-2, -3, LEAST}) {
            Due.fault("k " + k, x, x.others(3, k, 1, 2, 0, 0), -1, 0);
            Due.fault("k " + k + ", no set", x, x.others(64, k, 1, 2, 0, 0), -1, 0);
            Due.fault("k " + k + ", nothing", x, x.others(3, k, 3, 2, 0, 0), -1, 0);
            Due.fault("k " + k + ", no sheet", x, x.others(3, k, 4, 2, 0, 0), -1, 0);
            Due.fault("k " + k + ", no tuesday", x, new SameTuesday().others(0, k, 0, 0, 0, 0), -1, 0);
        }
        Due.fault("no sheet, no set", x, x.others(64, 0, 4, 2, 0, 0), -1, 0);
        for (int set : new int[] {-1, 64, LEAST, MOST}) {
            Due.fault("set " + set, x, x.others(set, -1, 1, 2, 0, 0), -2, 0);
            Due.fault("set " + set + ", nothing", x, x.others(set, -1, 3, 2, 0, 0), -2, 0);
        }
    }

    private static void setsAsked() {
        Due.sentence(0, "pairs (MINUTE, DEED) by which a ROW ENDS in a told set");
        SameTuesday x = Due.of("s;h0060,6001");
        Due.is("set 0", Due.others(x, 0, -1), 59);
        Due.is("set 1", Due.others(x, 1, -1), 0);
        x = Due.of("s;h0060;h0061;h0062;h0063;h0064,6561");
        Due.is("set 63", Due.others(x, 63, -1), 59);
        Due.is("set 63, the last", Due.others(x, 63, 58), 580);
        Due.is("set 31", Due.others(x, 31, -1), 0);
        Due.is("set 32", Due.others(x, 32, -1), 0);
    }

    private static void endsInJustTheSet() {
        Due.sentence(0, "pairs (MINUTE, DEED) by which a ROW ENDS in a told set");
        SameTuesday x = Due.of("s;h0060,6161,6261");
        Due.is("0 and 1", Due.others(x, 3, -1), 59);
        Due.is("a part of that", Due.others(x, 2, -1), 0);
        Due.is("no facts", Due.others(x, 0, -1), 0);
        Due.is("more than that", Due.others(x, 7, -1), 0);
        Due.is("more than that, by his own", Due.others(x, 7, -1, 10, 0), 59);
        Due.is("0 and 1, by his own and the same", Due.others(x, 3, -1, 10, 0), 59);
    }

    private static void theOtherDoesOne() {
        Due.sentence(0, "one more remembers, too, and does one DEED in a MINUTE, beside him");
        SameTuesday x = Due.of("s;h0060,6161,6261");
        Due.is("none is not one", Due.others(x, 1, -1), 0);
        Due.is("both are not one", Due.others(x, 7, -1), 0);
        x = Due.of("s;h0060,6061");
        Due.is("one that does nothing new", Due.others(x, 1, -1), 59);
    }

    private static void risingByMinutesThenDeeds() {
        Due.sentence(0, "rising by MINUTES, DEEDS");
        SameTuesday x = Due.of("s;h5960,6169,6161,6162");
        int k = 0;
        for (int m = 0; m < 60; m++) {
            for (int d = 0; d < 3; d++) {
                int lasts = d == 0 ? 9 : d;
                if (m + lasts < 60 && k < 200) {
                    Due.is("the " + k + "-th", Due.others(x, 3, k), 10 * m + d);
                    x = k % 60 == 59 ? Due.of("s;h5960,6169,6161,6162") : x;
                    k++;
                }
            }
        }
        Due.is("how many", Due.others(x, 3, -1), 51 + 59 + 58);
        Due.is("no more", Due.others(x, 3, 51 + 59 + 58), -9);
    }

    private static void firstAndLastMinute() {
        Due.sentence(18, "how many (k -1), the k-th: 10 times the MINUTE, and the DEED");
        SameTuesday x = Due.of("s;h5960;h0161,1161,1161,1161,1161,6261");
        Due.is("the fifth deed in the first minute", Due.others(x, 7, 0), 4);
        Due.is("the fifth deed in the last but one", Due.others(x, 7, 58), 584);
        Due.is("the first deed, its need met by then", Due.others(x, 3, 0), 10);
    }

    private static void ofEachLong() {
        Due.sentence(0, "if it can be begun then, by its NEED, and ends in the day; it ends behind his");
        for (int lasts = 1; lasts <= 9; lasts++) {
            SameTuesday x = Due.of("s;h5960,616" + lasts);
            Due.is("long " + lasts, Due.others(x, 3, -1), 60 - lasts);
            Due.is("long " + lasts + ", the last", Due.others(x, 3, 59 - lasts), 10 * (59 - lasts));
        }
    }

    private static void shorterDays() {
        Due.sentence(0, "if it can be begun then, by its NEED, and ends in the day; it ends behind his");
        SameTuesday x = Due.of("s;h0060,6163");
        for (int v = 1; v <= 6; v++) {
            x.minutes(v);
            Due.is("a day of " + v, Due.others(x, 3, -1), Math.max(0, v - 3));
        }
        Due.is("the last", Due.others(x, 3, 2), 20);
        Due.is("no more", Due.others(x, 3, 3), -9);
    }

    private static void besideHim() {
        Due.sentence(0, "one more remembers, too, and does one DEED in a MINUTE, beside him");
        SameTuesday x = Due.of("s;h5965,6169,6269");
        Due.is("while his goes on, before it and behind it", Due.others(x, 38, -1, 10, 0), 51);
        Due.is("in the minute of his", Due.others(x, 38, 10, 10, 0), 101);
        Due.is("the same deed in the same minute", Due.others(x, 34, 10, 10, 0), 100);
        // His own second deed still comes behind the other's that goes on.
        Due.is("his are not kept from it", Due.others(x, 38, -1, 10, 0, 20, 0), 51);
    }

    private static void endsBehindHis() {
        Due.sentence(0, "it ends behind his");
        SameTuesday x = Due.of("s;h5965,6015,6105");
        // Deed 0 makes 0 so and undoes 1, deed 1 the other way round: the later end tells.
        Due.is("the other's end is the later in one minute", Due.others(x, 34, 0, 20, 0), 201);
        Due.is("a minute sooner his is", Due.others(x, 33, -1, 20, 0), 20 + 55);
        Due.is("from that minute on", Due.others(x, 34, -1, 20, 0), 35);
        Due.sentence(0, "a DEED that ends in it (its FACT becomes so, then the one it UNDOES not so); then one may begin");
        x = Due.of("s;h5965,6063,0161");
        Due.is("his need is met by the other's end in that minute", Due.others(x, 35, 7, 10, 1), 70);
        Due.is("not a minute later", Due.others(x, 33, 0, 10, 1), 80);
    }

    private static void begunByItsNeed() {
        Due.sentence(0, "if it can be begun then, by its NEED, and ends in the day; it ends behind his");
        SameTuesday x = Due.of("s;h1060;m2060,0161");
        Due.is("as long as it is met", Due.others(x, 2, -1), 10);
        Due.is("from then on", Due.others(x, 2, 0), 100);
        Due.is("until then", Due.others(x, 2, 9), 190);
        x = Due.of("s;h5965,6063,0161");
        Due.is("it does one alone: none has met the need of that", Due.others(x, 34, -1), 0);
        Due.is("nor both", Due.others(x, 35, -1), 0);
        x = Due.of("s;h5965,0161,6061");
        Due.is("nor by one of a lesser number", Due.others(x, 34, -1), 0);
        x = Due.of("s;h5965,6063,0161,6204");
        Due.is("from his end on", Due.others(x, 35, 0, 10, 0), 131);
        Due.is("all from then on", Due.others(x, 35, -1, 10, 0), 46);
        Due.is("until his undoes it", Due.others(x, 38, -1, 10, 0, 13, 2), 4);
        Due.is("the last of these", Due.others(x, 38, 3, 10, 0, 13, 2), 161);
    }

    private static void hisRowBesideTheOther() {
        Due.sentence(0, "pairs (MINUTE, DEED) by which a ROW ENDS in a told set");
        SameTuesday x = Due.of("s;h0060,6204,0161");
        Due.is("he can't any more, if it ends by then", Due.others(x, 4, -1, 10, 1), 7);
        Due.is("the last by which he can't", Due.others(x, 4, 6, 10, 1), 60);
        Due.is("the first by which he can", Due.others(x, 6, 0, 10, 1), 70);
        x = Due.of("s;h5965,6061,0169,6261");
        // By the other's end he begins 1 in 10, and 2 in 12 is left out then.
        Due.is("he can by it, and then he can't", Due.others(x, 35, -1, 10, 1, 12, 2), 10);
        Due.is("he can't, and then he can", Due.others(x, 37, -1, 10, 1, 12, 2), 49);
    }

    private static void anotherThanHisRow() {
        Due.sentence(18, "OTHERS by a ROW that ENDS in a set");
        SameTuesday x = Due.of("s;h5965,6061,6161");
        Due.is("by a pair that could not be", Due.others(x, 34, -1, 59, 0), 59);
        Due.is("his row is as it was behind it", x.live(1, 2, 0, 1, 1), 32);
        Due.is("its first wrong one, too", x.live(1, 2, 0, 1, 0), 0);
        Due.is("the facts at its end, too", x.at(59, 1, 2, 0, 1), 32);
        Due.is("what it hangs on, too", x.hangs(1, 2, 0, 1), 1);
    }

    private static void noDeeds() {
        Due.sentence(18, "NONE: there are fewer");
        SameTuesday x = Due.of("s;h5965");
        Due.is("how many", Due.others(x, 32, -1), 0);
        Due.is("the first", Due.others(x, 32, 0), -9);
    }

    private static void rowsOfOthers() {
        Due.sentence(18, "else as hangs()");
        SameTuesday x = Due.of("s;h5965,6061,6169");
        Due.row(x, 60, 0, 5, 2, 7, 0, 9, 1);
        Due.is("no minute", x.others(33, -1, 1, 2, 0, 1), -2);
        Due.is("no deed", x.others(33, -1, 1, 2, 2, 1), -1);
        Due.is("a pair", x.others(33, -1, 1, 2, 4, 1), 59);
        Due.is("two pairs", x.others(35, -1, 1, 2, 4, 2), 59 + 51);
        Due.is("no pairs at the end", x.others(33, -1, 1, 2, 8, 0), 59);
        Due.fault("no pairs behind it", x, x.others(33, -1, 1, 2, 9, 0), Due.INDEX, 3);
    }

    private static void shareOfNone() {
        Due.sentence(0, "Shares are told as upper and lower number (above 0) in least terms.");
        for (int happenings = 1; happenings <= 6; happenings++) {
            StringBuilder text = new StringBuilder("s");
            for (int h = 0; h < happenings; h++) {
                text.append(";h0560");
            }
            SameTuesday x = Due.of(text.toString());
            Due.is("0 of 1, " + happenings + " happenings", Due.odds(x, 2), 1);
            Due.is("0 of 1, set 63", Due.odds(x, 63), 1);
        }
    }

    private static void shareOfAll() {
        Due.sentence(0, "Shares are told as upper and lower number (above 0) in least terms.");
        for (int happenings = 1; happenings <= 6; happenings++) {
            StringBuilder text = new StringBuilder("s");
            for (int h = 0; h < happenings; h++) {
                text.append(";h0560");
            }
            SameTuesday x = Due.of(text + (happenings < 6 ? ",6161" : ""));
            Due.is("1 of 1: set 0 is within all, " + happenings, Due.odds(x, 0), 1001);
            if (happenings < 6) {
                Due.is("1 of 1: his deed, " + happenings, Due.odds(x, 2, 3, 0), 1001);
            }
            int all = 1 << happenings;
            Due.is("all but one, " + happenings, Due.odds(x, 1), 1000L * (all - 1) + all);
        }
    }

    private static void leastTerms() {
        Due.sentence(0, "Shares are told as upper and lower number (above 0) in least terms.");
        SameTuesday x = Due.of("s;h0560;h0661;h0762;h0863;h0964;h1065");
        for (int set = 0; set < 64; set++) {
            x = set % 20 == 0 ? Due.of("s;h0560;h0661;h0762;h0863;h0964;h1065") : x;
            Due.is("one of 2, 4, 8 ..: set " + set, Due.odds(x, set), 1000 + (1 << Integer.bitCount(set)));
        }
        Due.is("3 of 4, not 6 of 8", Due.odds(Due.of("s;h0560;h0660;h0761"), 1), 3004);
        Due.is("3 of 8", Due.odds(Due.of("s;h0560;h0660;h0761"), 3), 3008);
    }

    private static void eachHappening() {
        Due.sentence(0, "if each HAPPENING is there, or is not, all such sets alike: the share of those");
        Due.is("a happening", Due.odds(Due.of("s;h0560"), 1), 1002);
        Due.is("and a mishap", Due.odds(Due.of("s;h0560;m0660"), 1), 1004);
        Due.is("two caprices", Due.odds(Due.of("s;c0560;c0660"), 1), 1002);
        Due.is("a chain", Due.odds(Due.of("s;h0560;h0601;h0712"), 4), 1008);
        Due.is("two ways", Due.odds(Due.of("s;h0560;h0601;h0761"), 2), 5008);
        Due.is("one that never comes about", Due.odds(Due.of("s;h0560;h0623"), 1), 1002);
        Due.is("more than the set is so, too", Due.odds(Due.of("s;h0560;h0661"), 1), 1002);
    }

    private static void rowsByOdds() {
        Due.sentence(0, "by which it ENDS so that a told set is within that");
        SameTuesday x = Due.of("s;h0560;m1060,0165,6269");
        Due.is("his deed, if the first is there", Due.odds(x, 2, 5, 0), 1002);
        Due.is("behind the mishap", Due.odds(x, 2, 10, 0), 1004);
        Due.is("the first pair is left out by half", Due.odds(x, 4, 5, 0, 6, 1), 1002);
        Due.is("never both", Due.odds(x, 6, 5, 0, 6, 1), 1);
        Due.is("one behind the other", Due.odds(x, 6, 5, 0, 10, 1), 1002);
        Due.is("a deed at any rate", Due.odds(x, 4, 5, 1), 1001);
    }

    private static void shorterDaysByOdds() {
        Due.sentence(0, "if each HAPPENING is there, or is not, all such sets alike: the share of those");
        SameTuesday x = Due.of("s;h0560;m1060,0163");
        x.minutes(10);
        Due.is("the mishap is behind the day", Due.odds(x, 1), 1002);
        Due.is("a deed", Due.odds(x, 3, 6, 0), 1002);
        Due.is("a deed that would end behind it", Due.odds(x, 2, 7, 0), 1);
        x.minutes(5);
        Due.is("all are behind the day", Due.odds(x, 1), 1);
    }

    private static void oddsAsked() {
        SameTuesday x = Due.of("s;h0560;h0660,6161");
        Due.sentence(19, "ODDS of a ROW (which 0 the upper, 1 the lower number)");
        int n = Due.row(x, 5, 0);
        Due.fault("the upper", x, x.odds(3, 1, 2, 0, n, 0), 3, 0);
        Due.fault("the lower", x, x.odds(3, 1, 2, 0, n, 1), 4, 0);
        Due.sentence(19, "LOST: OUTSIDE: set, which; else as hangs().");
        for (int which : new int[] {-1, 2, LEAST, MOST}) {
            Due.fault("which " + which, x, x.odds(3, 1, 2, 0, n, which), LOST, 0);
            Due.fault("which " + which + ", nothing", x, x.odds(3, 3, 2, 0, n, which), LOST, 0);
        }
        for (int set : new int[] {-1, 64, LEAST, MOST}) {
            Due.fault("set " + set, x, x.odds(set, 1, 2, 0, n, 0), LOST, 0);
            Due.fault("set " + set + ", another lane", x, x.odds(set, 1, 1, 0, n, 0), LOST, 0);
        }
        Due.fault("no tuesday", x, new SameTuesday().odds(0, 0, 0, 0, 0, 0), LOST, 0);
        SameTuesday none = new SameTuesday();
        none.sheet(0, 0, 0);
        Due.fault("no tuesday, a row", none, none.odds(0, 0, 0, 0, 0, 0), LOST, 0);
    }
}
