/** A TEXT at its edges, and what a TUESDAY tells of its parts, its MINUTES (promises 1 to 6). */
public final class TextEdgesTest {
    private static final int LEAST = Integer.MIN_VALUE, MOST = Integer.MAX_VALUE;
    /** 57 codes: no more DEEDS fit into the 60 cells of a SHEET behind six HAPPENINGS. */
    private static final String SIX_AND_FOUR = "s;h0000;m1111;c2222;h3333;m4444;c5965,0001,1112,2223,6569";
    /** 32 codes. */
    private static final String ONE_AND_FIVE = "s;h0000,0001,1112,2223,3334,6569";

    public static void main(String[] args) {
        newObject();
        howManyParts();
        partsInTheirOrder();
        emptyText();
        tooSoonAnEnd();
        cellsBehindTheText();
        firstOfSeveral();
        sixtyCodes();
        placesFromItsBeginning();
        codesOfEachPlace();
        codesOfTheLastParts();
        codesOfEachLane();
        digitsThatAreTold();
        numbersOfParts();
        allAnew();
        fewerPartsAnew();
        wrongTextChangesNothing();
        minutes();
        shift();
        shiftedBehindTheDay();
        Due.end();
    }

    private static String times(String part, int n) {
        StringBuilder text = new StringBuilder();
        for (int k = 0; k < n; k++) {
            text.append(part);
        }
        return text.toString();
    }

    private static void newObject() {
        SameTuesday another = Due.of(SIX_AND_FOUR);
        another.tell(0);
        another.day(5);
        SameTuesday x = new SameTuesday();
        Due.sentence(1, "No TUESDAY (no HAPPENINGS), SHEETS have nothing.");
        for (int what = 0; what < 4; what++) {
            Due.is("many(" + what + ")", x.many(what), 0);
        }
        for (int h = 0; h < 6; h++) {
            Due.is("ofHappening", x.ofHappening(h, 0), -1);
            Due.is("ofDeed", x.ofDeed(h, 0), -1);
        }
        Due.is("minutes", x.minutes(60), -3);
        for (int k = 0; k < 4; k++) {
            Due.is("put, sheet " + k, x.put(k, 0, 0), Due.NULL);
            Due.is("lose, sheet " + k, x.lose(k), 0);
        }
        Due.is("trace", x.trace(), 0);
        Due.text(x, "s;c0760");
        Due.is("the other one has its own happenings", another.many(0), 6);
        Due.is("and its own trace", another.trace(), 1);
        Due.is("and its own days", another.many(3), 1);
    }

    private static void howManyParts() {
        for (int h = 0; h <= 7; h++) {
            for (int d = 0; d <= 6; d++) {
                String text = "s" + times(";h0000", h) + times(",6001", d);
                if (text.length() <= 60) {
                    parts(text, h, d);
                }
            }
        }
    }

    private static void parts(String text, int h, int d) {
        SameTuesday x = new SameTuesday();
        int got = Due.text(x, text);
        String what = h + " happenings, " + d + " deeds";
        boolean taken = h >= 1 && h <= 6 && d <= 5;
        if (h == 0) {
            Due.sentence(0, "s, then 1 to 6 HAPPENINGS, numbered from 0 on");
            Due.is(what, got, -101);
        } else if (h == 7) {
            Due.sentence(0, "the ; of a seventh HAPPENING");
            Due.is(what, got, -100 - 37);
        } else if (d == 6) {
            Due.sentence(0, "the , of a sixth DEED");
            Due.is(what, got, -100 - (1 + 6 * h + 25));
        } else {
            Due.sentence(2, "how many HAPPENINGS");
            Due.is(what, got, h);
        }
        Due.sentence(30, "How many: 0 HAPPENINGS, 1 DEEDS");
        Due.is("happenings of " + what, x.many(0), taken ? h : 0);
        Due.is("deeds of " + what, x.many(1), taken ? d : 0);
    }

    private static void partsInTheirOrder() {
        SameTuesday x = new SameTuesday();
        Due.sentence(0, "of one behind a DEED");
        Due.is("behind one", Due.text(x, "s;h0000,6001;h0000"), -112);
        Due.is("behind one, its ; alone", Due.text(x, "s;h0000,6001;"), -112);
        Due.is("behind two", Due.text(x, "s;h0000,6001,6001;h0000"), -117);
        x = new SameTuesday();
        Due.is("behind six and one", Due.text(x, "s" + times(";c5965", 6) + ",6001;"), -142);
        Due.is("behind five deeds", Due.text(x, "s;m0000" + times(",6001", 5) + ";"), -132);
        Due.sentence(0, "then 0 to 5 DEEDS");
        x = new SameTuesday();
        Due.is("a deed ahead of all", Due.text(x, "s,6001;h0000"), -101);
        Due.is("the seventh's ; alone", Due.text(x, "s" + times(";h0000", 6) + ";"), -137);
        Due.is("the sixth's , alone", Due.text(x, "s;h0000" + times(",6001", 5) + ","), -132);
        Due.is("behind all parts another code", Due.text(x, SIX_AND_FOUR + "s"), -157);
        x = new SameTuesday();
        Due.is("behind all parts a digit", Due.text(x, ONE_AND_FIVE + "0"), -132);
        Due.is("behind all parts the code 0", Due.text(x, "s;h0000" + (char) 0), -107);
    }

    private static void emptyText() {
        SameTuesday x = new SameTuesday();
        Due.sentence(0, "how many codes there are, if it just ends too soon");
        x.sheet(0, Due.BYTES, 0);
        Due.fault("no codes of no cells", x, x.tuesday(0, 0, 0, 0), -100, 0);
        Due.is("many", x.many(0), 0);
        Due.write(x, 0, Due.BYTES, "s;h0000");
        Due.fault("no codes at the beginning", x, x.tuesday(0, 0, 0, 0), -100, 0);
        Due.fault("no codes at the end", x, x.tuesday(0, 0, 7, 0), -100, 0);
        Due.is("many", x.many(0), 0);
    }

    private static void tooSoonAnEnd() {
        for (String whole : new String[] {SIX_AND_FOUR, ONE_AND_FIVE}) {
            SameTuesday x = new SameTuesday();
            Due.write(x, 0, Due.SHORTS, whole);
            for (int n = 0; n <= whole.length(); n++) {
                Due.sentence(0, "how many codes there are, if it just ends too soon");
                Due.is(n + " codes of " + whole, x.tuesday(0, 1, 0, n), dueOf(whole, n));
            }
        }
    }

    /** Of the first n codes of a text that is right: how many happenings, or -100 less n. */
    private static int dueOf(String whole, int n) {
        int happenings = 0;
        for (int i = 0; i < n; i++) {
            happenings += whole.charAt(i) == ';' ? 1 : 0;
        }
        int behind = n - 1 - 6 * happenings;
        boolean isWhole = happenings > 0 && behind >= 0 && behind % 5 == 0;
        return isWhole ? happenings : -100 - n;
    }

    private static void cellsBehindTheText() {
        SameTuesday x = new SameTuesday();
        Due.write(x, 0, Due.BYTES, "s;h0000;m1111");
        Due.sentence(2, "A TUESDAY by a TEXT of n cells of a SHEET from i on");
        Due.is("one happening, another one behind", x.tuesday(0, 0, 0, 7), 1);
        Due.is("many", x.many(0), 1);
        Due.is("with a part of the other one", x.tuesday(0, 0, 0, 8), -108);
        Due.is("both", x.tuesday(0, 0, 0, 13), 2);
        Due.is("from the second cell on", x.tuesday(0, 0, 1, 12), -100);
    }

    private static void firstOfSeveral() {
        SameTuesday x = new SameTuesday();
        Due.sentence(0, "the place (from 0 on) of the first code with which no TEXT goes on");
        Due.is("two wrong codes", Due.text(x, "s;h0x0y"), -104);
        Due.is("all wrong", Due.text(x, "......."), -100);
        Due.is("a wrong code, then too soon an end", Due.text(x, "s;h9"), -103);
        Due.is("a wrong last code", Due.text(x, "s;h0006"), -106);
        Due.is("a wrong code in the second", Due.text(x, "s;h0000;h0070;h9999"), -111);
        Due.is("a wrong last code of all", Due.text(x, "s;h0000,6000"), -111);
        Due.is("a wrong code between", Due.text(x, "s;h0000.,6001"), -107);
        Due.is("a wrong code, a seventh happening", Due.text(x, "s" + times(";h0000", 5) + ";h0070;"), -135);
    }

    private static void sixtyCodes() {
        SameTuesday x = new SameTuesday();
        Due.sentence(0, "how many codes there are, if it just ends too soon");
        Due.is("60 codes", Due.text(x, SIX_AND_FOUR + ",65"), -160);
        Due.sentence(0, "the place (from 0 on) of the first code with which no TEXT goes on");
        Due.is("the last of 60", Due.text(x, SIX_AND_FOUR + ",66"), -159);
        Due.is("57 codes", Due.text(x, SIX_AND_FOUR), 6);
    }

    private static void placesFromItsBeginning() {
        SameTuesday x = new SameTuesday();
        Due.write(x, 3, Due.INTS, "s;s;h0560;s");
        Due.sentence(0, "the place (from 0 on) of the first code with which no TEXT goes on");
        Due.is("the text in the midst", x.tuesday(3, 2, 2, 7), 1);
        Due.is("its minute", x.ofHappening(0, 1), 5);
        Due.is("a code behind it", x.tuesday(3, 2, 2, 9), -108);
        Due.is("ahead of it", x.tuesday(3, 2, 0, 9), -102);
        Due.is("too soon an end", x.tuesday(3, 2, 2, 6), -106);
    }

    /** The codes with which a text goes on, place by place; all other ones there are wrong. */
    private static final String[] HAPPENING = {";", "hmc", "012345", "0123456789", "0123456", "012345"};
    private static final String[] DEED = {",", "0123456", "012345", "0123456", "123456789"};

    private static void codesOfEachPlace() {
        place("s;h0000,0001", 0, "s");
        for (int k = 1; k < HAPPENING.length; k++) {
            place("s;h0000,0001", 1 + k, HAPPENING[k]);
        }
        for (int k = 1; k < DEED.length; k++) {
            place("s;h0000,0001", 7 + k, DEED[k]);
        }
        place("s;h0000", 1, ";");
        place("s;h0000,0001", 7, ",");
    }

    private static void codesOfTheLastParts() {
        for (int k = 1; k < HAPPENING.length; k++) {
            place(SIX_AND_FOUR, 31 + k, HAPPENING[k]);
        }
        for (int k = 1; k < DEED.length; k++) {
            place(SIX_AND_FOUR, 52 + k, DEED[k]);
            place(ONE_AND_FIVE, 27 + k, DEED[k]);
        }
        place(SIX_AND_FOUR, 31, ";");
        place(SIX_AND_FOUR, 37, ",");
        place(SIX_AND_FOUR, 52, ",");
        place(ONE_AND_FIVE, 27, ",");
    }

    /** Puts each of the codes 0 .. 127 into one place of a text that is else right. */
    private static void place(String text, int place, String fits) {
        SameTuesday x = new SameTuesday();
        Due.write(x, 0, Due.BYTES, text);
        int happenings = x.tuesday(0, 0, 0, text.length());
        Due.sentence(0, "a letter, a digit 0 .. 5 and a digit 0 .. 9 (MINUTE), a digit 0 .. 6 (NEED), a digit 0 .. 5 (FACT)");
        for (int code = 0; code < 128; code++) {
            boolean fit = fits.indexOf(code) >= 0;
            // A , instead of a ; begins a deed, and the other way round: the next code is the wrong one.
            boolean goesOn = fits.equals(";") && code == ',' && place > 1 || fits.equals(",") && code == ';' && place == 7;
            x.put(0, place, code);
            int due = fit ? happenings : -100 - place;
            int got = x.tuesday(0, 0, 0, text.length());
            Due.is("code " + code + " in place " + place + " of " + text, got, goesOn ? due - 1 : due);
        }
    }

    private static void codesOfEachLane() {
        Due.sentence(2, "taken as a row of a LANE");
        for (int lane = 0; lane < 3; lane++) {
            SameTuesday x = new SameTuesday();
            Due.write(x, lane, lane, "s;h0000");
            Due.is("lane " + lane, x.tuesday(lane, lane, 0, 7), 1);
            x.put(lane, 0, 's' + 256);
            Due.is("s and 256, lane " + lane, x.tuesday(lane, lane, 0, 7), lane == 0 ? 1 : -100);
            x.put(lane, 0, 's' + 65536);
            Due.is("s and 65536, lane " + lane, x.tuesday(lane, lane, 0, 7), lane < 2 ? 1 : -100);
            for (int code : new int[] {-'s', 's' - 128, -1, 0, LEAST, MOST}) {
                x.put(lane, 0, code);
                Due.is("code " + code + ", lane " + lane, x.tuesday(lane, lane, 0, 7), -100);
            }
            x.put(lane, 0, 's');
            for (int code : new int[] {-'0', '0' + 128, '0' - 65536 * 3 - 256, -1, LEAST, MOST}) {
                x.put(lane, 6, code);
                boolean isZero = lane == 0 && (byte) code == '0';
                Due.is("code " + code + ", lane " + lane, x.tuesday(lane, lane, 0, 7), isZero ? 1 : -106);
            }
        }
    }

    private static void digitsThatAreTold() {
        int[][] places = {{'h', '0', '0', '0', '0'}, {'c', '5', '9', '6', '5'}, {'m', '0', '9', '5', '4'},
            {'h', '5', '0', '1', '1'}, {'c', '3', '0', '0', '3'}};
        StringBuilder text = new StringBuilder("s");
        for (int[] of : places) {
            text.append(';');
            for (int code : of) {
                text.append((char) code);
            }
        }
        SameTuesday x = Due.of(text + ",0001,6569,1323,5412,2145");
        int[][] happenings = {{0, 0, 0, 0}, {2, 59, 6, 5}, {1, 9, 5, 4}, {0, 50, 1, 1}, {2, 30, 0, 3}};
        int[][] deeds = {{0, 0, 0, 1}, {6, 5, 6, 9}, {1, 3, 2, 3}, {5, 4, 1, 2}, {2, 1, 4, 5}};
        for (int k = 0; k < 5; k++) {
            for (int what = 0; what < 4; what++) {
                Due.sentence(3, "Of a HAPPENING: 0 kind, 1 MINUTE, 2 NEED, 3 FACT.");
                Due.is("happening " + k + ", " + what, x.ofHappening(k, what), happenings[k][what]);
                Due.sentence(4, "Of a DEED: 0 NEED, 1 FACT, 2 UNDOES, 3 LONG.");
                Due.is("deed " + k + ", " + what, x.ofDeed(k, what), deeds[k][what]);
            }
        }
    }

    private static void numbersOfParts() {
        SameTuesday x = Due.of(SIX_AND_FOUR);
        Due.sentence(3, "UNKNOWN; OUTSIDE.");
        Due.is("the sixth happening", x.ofHappening(5, 1), 59);
        for (int h : new int[] {-1, 6, 7, LEAST, MOST}) {
            Due.is("happening " + h, x.ofHappening(h, 0), -1);
            Due.is("happening " + h + ", what 4", x.ofHappening(h, 4), -1);
        }
        for (int what : new int[] {-1, 4, LEAST, MOST}) {
            Due.is("happening 5, what " + what, x.ofHappening(5, what), -2);
        }
        Due.sentence(4, "UNKNOWN; OUTSIDE.");
        Due.is("the fourth deed", x.ofDeed(3, 3), 9);
        Due.is("no fifth one", x.ofDeed(4, 0), -1);
        x = Due.of(ONE_AND_FIVE);
        Due.is("the fifth deed", x.ofDeed(4, 3), 9);
        for (int d : new int[] {-1, 5, 6, LEAST, MOST}) {
            Due.is("deed " + d, x.ofDeed(d, 0), -1);
            Due.is("deed " + d + ", what 4", x.ofDeed(d, 4), -1);
        }
        for (int what : new int[] {-1, 4, LEAST, MOST}) {
            Due.is("deed 4, what " + what, x.ofDeed(4, what), -2);
        }
    }

    private static void allAnew() {
        String text = "s;h3060;h4063,6163,0261";
        SameTuesday x = Due.of(text);
        x.minutes(7);
        x.day(63);
        x.day(1);
        x.shift(0, 2);
        Due.is("soonest, ahead", x.soonest(1), 2);
        Due.is("next, ahead", x.next(1), 0);
        Due.is("again", x.tuesday(0, 0, 0, text.length()), 2);
        Due.sentence(0, "A TEXT that is taken makes all anew: the day has 60 MINUTES, no DAYS were lived");
        Due.is("minutes", x.many(2), 60);
        Due.is("days", x.many(3), 0);
        Due.is("forget(1)", x.forget(1), -2);
        Due.is("laws", x.laws(-1), 64);
        Due.is("fewest", x.fewest(), 0);
        Due.is("its minute", x.ofHappening(0, 1), 30);
        Due.is("soonest", x.soonest(1), 30);
        Due.is("soonest of the later one", x.soonest(8), 40);
        Due.is("ends", Due.ends(x, 56, 0), 11);
        Due.is("next", x.next(1), 16);
        Due.is("the first day's number", x.day(0), 0);
    }

    private static void fewerPartsAnew() {
        SameTuesday x = Due.of("s;h3060;h4061,6163,0261");
        Due.sentence(0, "A TEXT that is taken makes all anew: the day has 60 MINUTES, no DAYS were lived");
        Due.is("one happening", Due.text(x, "s;m1002"), 1);
        Due.is("happenings", x.many(0), 1);
        Due.is("deeds", x.many(1), 0);
        Due.is("kind", x.ofHappening(0, 0), 1);
        Due.is("minute", x.ofHappening(0, 1), 10);
        Due.is("no second happening", x.ofHappening(1, 0), -1);
        Due.is("no deed", x.ofDeed(0, 0), -1);
        Due.is("no deed in a row", Due.ends(x, 5, 0), -1);
        Due.is("no deed that makes it so", x.soonest(2), -9);
        Due.is("no happening that makes it so", x.soonest(1), -9);
        Due.is("no second telling", x.tell(1), -1);
        Due.is("others", Due.others(x, 0, -1), 0);
        Due.is("odds", Due.odds(x, 0), 1001);
        Due.is("hangs", Due.hangs(x), 0);
    }

    private static void wrongTextChangesNothing() {
        Due.sentence(0, "it answers -10 less it (LOST, where a long is answered, as for refusals) and changes nothing");
        String[] wrong = {"", "s", "x", "s;c1111;", "s;c1111,6001;", "s;c1111,6000", "s;c1111.", "s" + times(";c1111", 7)};
        for (String text : wrong) {
            SameTuesday x = Due.of("s;h3060;h4061,6163");
            x.minutes(45);
            x.day(9);
            x.shift(0, 31);
            Due.holds("refused: " + text, Due.text(x, text) <= -100);
            SameTuesday same = Due.of("s;h3060;h4061,6163");
            same.minutes(45);
            same.day(9);
            same.shift(0, 31);
            Due.write(same, 0, 0, text);
            Due.holds("nothing changes by " + text, Seen.of(x).equals(Seen.of(same)));
        }
    }

    private static void minutes() {
        SameTuesday x = new SameTuesday();
        Due.sentence(5, "OUTSIDE; STATE: there is no TUESDAY.");
        Due.is("1, no tuesday", x.minutes(1), -3);
        Due.is("60, no tuesday", x.minutes(60), -3);
        Due.is("0, no tuesday", x.minutes(0), -2);
        Due.is("61, no tuesday", x.minutes(61), -2);
        x = Due.of("s;h0060;h5961");
        x.day(9);
        Due.sentence(5, "The day has v MINUTES (1 .. 60): how many it had.");
        int[] v = {60, 1, 1, 2, 59, 60};
        int had = 60;
        for (int now : v) {
            Due.is("minutes(" + now + ")", x.minutes(now), had);
            Due.is("many(2)", x.many(2), now);
            Due.is("the last minute's happening", x.soonest(2), now == 60 ? 59 : -9);
            had = now;
        }
        for (int wrong : new int[] {0, 61, -1, LEAST, MOST}) {
            Due.is("minutes(" + wrong + ")", x.minutes(wrong), -2);
            Due.is("many(2)", x.many(2), 60);
        }
        Due.is("its days stay", x.many(3), 1);
        Due.is("its happenings' minutes stay", x.ofHappening(1, 1), 59);
    }

    private static void shift() {
        SameTuesday x = Due.of("s;h3001;h3060");
        Due.sentence(6, "The MINUTE of a HAPPENING becomes v (0 .. 59): what it was.");
        Due.is("to the first", x.shift(1, 0), 30);
        Due.is("the need is met by then", Due.ends(x), 3);
        Due.is("to the last", x.shift(1, 59), 0);
        Due.is("it is not", Due.ends(x), 1);
        Due.is("to where it is", x.shift(1, 59), 59);
        Due.is("both to one minute", x.shift(0, 59), 30);
        Due.is("then it goes by numbers", Due.ends(x), 1);
        Due.sentence(6, "UNKNOWN; OUTSIDE.");
        for (int v : new int[] {-1, 60, LEAST, MOST}) {
            Due.is("v " + v, x.shift(0, v), -2);
            Due.is("h 2, v " + v, x.shift(2, v), -1);
        }
        for (int h : new int[] {-1, 2, LEAST, MOST}) {
            Due.is("h " + h, x.shift(h, 0), -1);
        }
        Due.is("it stays", x.ofHappening(0, 1), 59);
    }

    private static void shiftedBehindTheDay() {
        SameTuesday x = Due.of("s;h0360");
        x.minutes(4);
        Due.sentence(6, "The MINUTE of a HAPPENING becomes v (0 .. 59): what it was.");
        Due.is("in the last minute", x.soonest(1), 3);
        Due.is("behind it", x.shift(0, 4), 3);
        Due.is("never", x.soonest(1), -9);
        Due.is("far behind it", x.shift(0, 59), 4);
        Due.is("back", x.shift(0, 0), 59);
        Due.is("at once", x.soonest(1), 0);
    }
}
