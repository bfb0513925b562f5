/** Promises 1 to 6: a new object, the text of a day, its parts, its minutes. */
public final class DayTest {
    private static final String WHOLE = "s;h0560;m1203;c5952,6123,5461";

    public static void main(String[] args) {
        newObject();
        textsThatAreTaken();
        firstFaults();
        eachWrongCode();
        textInTheMidst();
        refusalsOfTuesday();
        refusedTextChangesNothing();
        takenTextMakesAllAnew();
        happenings();
        deeds();
        minutes();
        shift();
        Due.end();
    }

    private static void newObject() {
        SameTuesday x = new SameTuesday();
        for (int what = 0; what < 4; what++) {
            Due.is("many of a new object", x.many(what), 0);
        }
        Due.is("ofHappening of a new object", x.ofHappening(0, 0), -1);
        Due.is("ofDeed of a new object", x.ofDeed(0, 0), -1);
        Due.is("trace of a new object", x.trace(), 0);
        Due.is("fault of a new object", x.fault(), 0);
        for (int k = 0; k < 4; k++) {
            Due.is("lose of a new object", x.lose(k), 0);
        }
    }

    private static void textsThatAreTaken() {
        SameTuesday x = new SameTuesday();
        Due.is("one happening", Due.text(x, "s;h0000"), 1);
        Due.is("no deeds", x.many(1), 0);
        Due.is("minutes", x.many(2), 60);
        Due.is("three and two", Due.text(x, WHOLE), 3);
        Due.is("happenings", x.many(0), 3);
        Due.is("deeds", x.many(1), 2);
        Due.is("six happenings, four deeds",
            Due.text(x, "s;h0000;m1111;c2222;h3333;m4444;c5955,0001,1112,2223,3334"), 6);
        Due.is("six happenings", x.many(0), 6);
        Due.is("four deeds", x.many(1), 4);
        Due.is("five deeds", Due.text(x, "s;h0960,6569,0001,6009,1251,5561"), 1);
        Due.is("one happening", x.many(0), 1);
        Due.is("five deeds", x.many(1), 5);
    }

    private static void firstFaults() {
        SameTuesday x = new SameTuesday();
        Due.is("sheet", x.sheet(0, Due.BYTES, 0), 1);
        Due.is("no codes", x.tuesday(0, Due.BYTES, 0, 0), -100);
        for (int n = 1; n < WHOLE.length(); n++) {
            x = new SameTuesday();
            boolean whole = n == 7 || n == 13 || n == 19 || n == 24;
            int due = n == 7 ? 1 : n == 13 ? 2 : n == 19 || n == 24 ? 3 : -100 - n;
            Due.is("the first " + n + (whole ? " codes, a whole text" : " codes"),
                Due.text(x, WHOLE.substring(0, n)), due);
        }
        x = new SameTuesday();
        Due.is("a deed, no happening", Due.text(x, "s,6123"), -101);
        Due.is("another first code", Due.text(x, "h;h0000"), -100);
        Due.is("no ; ahead", Due.text(x, "sh0000"), -101);
        Due.is("a seventh happening", Due.text(x, "s;h0000;h0000;h0000;h0000;h0000;h0000;h0000"), -137);
        Due.is("the ; of a seventh one alone", Due.text(x, "s;h0000;h0000;h0000;h0000;h0000;h0000;"), -137);
        Due.is("a happening behind a deed", Due.text(x, "s;h0000,6001;h0000"), -112);
        Due.is("a sixth deed", Due.text(x, "s;h0000,6001,6001,6001,6001,6001,6001"), -132);
        Due.is("the , of a sixth one alone", Due.text(x, "s;h0000,6001,6001,6001,6001,6001,"), -132);
        Due.is("a code behind", Due.text(x, "s;h0000 "), -107);
        Due.is("a digit behind", Due.text(x, "s;h00000"), -107);
        Due.is("another s behind", Due.text(x, "s;h0000s"), -107);
        Due.is("a wrong code ahead of a too early end", Due.text(x, "s;x"), -102);
    }

    /** Each place of a happening and of a deed takes its own codes and no other ones. */
    private static void eachWrongCode() {
        String[] fits = {"s", ";", "hmc", "012345", "0123456789", "0123456", "012345",
            ",", "0123456", "012345", "0123456", "123456789"};
        String text = "s;h0000,0001";
        for (int place = 0; place < fits.length; place++) {
            SameTuesday x = new SameTuesday();
            Due.write(x, 0, Due.SHORTS, text);
            for (int code = 40; code < 128; code++) {
                x.put(0, place, code);
                int due = fits[place].indexOf(code) >= 0 ? 1 : -100 - place;
                // Behind a happening a further one may begin; it goes on otherwise.
                int got = x.tuesday(0, Due.SHORTS, 0, text.length());
                Due.is("code " + code + " at " + place, got, place == 7 && code == ';' ? -108 : due);
            }
        }
        int[] far = {-1, 115 + 256, 115 + 65536, 115 - 256, Integer.MIN_VALUE, Integer.MAX_VALUE};
        SameTuesday x = new SameTuesday();
        Due.write(x, 0, Due.INTS, text);
        for (int code : far) {
            x.put(0, 0, code);
            Due.is("code " + code, x.tuesday(0, Due.INTS, 0, text.length()), -100);
        }
    }

    private static void textInTheMidst() {
        SameTuesday x = new SameTuesday();
        Due.write(x, 2, Due.INTS, "..." + "s;h0761" + "..");
        Due.is("the text alone", x.tuesday(2, Due.INTS, 3, 7), 1);
        Due.is("minute", x.ofHappening(0, 1), 7);
        Due.is("places are told from where it begins", x.tuesday(2, Due.INTS, 3, 8), -107);
        Due.is("a too early end", x.tuesday(2, Due.INTS, 3, 5), -105);
        Due.is("none at the sheet's end", x.tuesday(2, Due.INTS, 12, 0), -100);
    }

    private static void refusalsOfTuesday() {
        SameTuesday x = new SameTuesday();
        Due.fault("no such sheet", x, x.tuesday(4, 0, 0, 1), -1, 0);
        Due.fault("no such sheet, lane", x, x.tuesday(-1, 9, 0, 1), -1, 0);
        Due.fault("no such lane", x, x.tuesday(0, 3, 0, 1), -2, 0);
        Due.fault("no such lane", x, x.tuesday(0, -1, 0, -1), -2, 0);
        Due.fault("nothing", x, x.tuesday(0, 1, 0, -1), Due.NULL, 1);
        Due.write(x, 0, Due.BYTES, "s;h0000");
        Due.fault("another lane", x, x.tuesday(0, 1, 0, -1), Due.CAST, 2);
        Due.fault("another lane", x, x.tuesday(0, 2, 99, 7), Due.CAST, 2);
        Due.fault("below 0", x, x.tuesday(0, 0, 99, -1), Due.SIZE, 4);
        Due.fault("least of all", x, x.tuesday(0, 0, 0, Integer.MIN_VALUE), Due.SIZE, 4);
        Due.fault("one too many", x, x.tuesday(0, 0, 0, 8), Due.INDEX, 3);
        Due.fault("one too far", x, x.tuesday(0, 0, 1, 7), Due.INDEX, 3);
        Due.fault("i below 0", x, x.tuesday(0, 0, -1, 7), Due.INDEX, 3);
        Due.fault("i below 0, none taken", x, x.tuesday(0, 0, -1, 0), Due.INDEX, 3);
        Due.fault("i beyond, none taken", x, x.tuesday(0, 0, 8, 0), Due.INDEX, 3);
        Due.fault("far", x, x.tuesday(0, 0, Integer.MAX_VALUE, Integer.MAX_VALUE), Due.INDEX, 3);
        Due.fault("far", x, x.tuesday(0, 0, 1, Integer.MAX_VALUE), Due.INDEX, 3);
        Due.fault("i at the end, none taken", x, x.tuesday(0, 0, 7, 0), -100, 0);
        Due.is("nothing was taken", x.many(0), 0);
        Due.fault("taken", x, x.tuesday(0, 0, 0, 7), 1, 0);
    }

    private static void refusedTextChangesNothing() {
        SameTuesday x = Due.of(WHOLE);
        x.minutes(20);
        x.shift(0, 9);
        x.day(3);
        Due.is("a wrong text", Due.text(x, "s;c0112,0001;"), -112);
        Due.is("no such lane", x.tuesday(0, 3, 0, 7), -2);
        Due.is("a fault", x.tuesday(0, 0, 0, 61), Due.INDEX);
        Due.is("happenings", x.many(0), 3);
        Due.is("deeds", x.many(1), 2);
        Due.is("minutes", x.many(2), 20);
        Due.is("days", x.many(3), 1);
        Due.is("kind", x.ofHappening(0, 0), 0);
        Due.is("minute", x.ofHappening(0, 1), 9);
        Due.is("need", x.ofDeed(0, 0), 6);
    }

    private static void takenTextMakesAllAnew() {
        SameTuesday x = Due.of(WHOLE);
        x.minutes(20);
        x.day(3);
        x.day(0);
        x.shift(0, 50);
        x.tell(0);
        Due.is("can, so that what can be is known", x.can(19, 1), 0);
        Due.is("the text again", x.tuesday(0, 0, 0, WHOLE.length()), 3);
        Due.is("minutes", x.many(2), 60);
        Due.is("days", x.many(3), 0);
        Due.is("laws", x.laws(-1), 64);
        Due.is("minute", x.ofHappening(0, 1), 5);
        Due.is("can", x.can(5, 1), 1);
        Due.is("trace stays", x.trace(), 1);
        Due.is("a lesser text", Due.text(x, "s;h0000"), 1);
        Due.is("no second happening", x.ofHappening(1, 0), -1);
        Due.is("no deed", x.ofDeed(0, 0), -1);
        Due.is("sheets stay", x.cell(0, 0, 0), 's');
    }

    private static void happenings() {
        SameTuesday x = Due.of("s;h0560;m1203;c5952");
        int[][] due = {{0, 5, 6, 0}, {1, 12, 0, 3}, {2, 59, 5, 2}};
        for (int h = 0; h < 3; h++) {
            for (int what = 0; what < 4; what++) {
                Due.is("ofHappening(" + h + ", " + what + ")", x.ofHappening(h, what), due[h][what]);
            }
            Due.is("what below", x.ofHappening(h, -1), -2);
            Due.is("what above", x.ofHappening(h, 4), -2);
        }
        Due.is("h below", x.ofHappening(-1, 0), -1);
        Due.is("h above", x.ofHappening(3, 0), -1);
        Due.is("both", x.ofHappening(3, 4), -1);
        Due.is("far", x.ofHappening(Integer.MIN_VALUE, 0), -1);
    }

    private static void deeds() {
        SameTuesday x = Due.of("s;h0560,6123,5469,0001");
        int[][] due = {{6, 1, 2, 3}, {5, 4, 6, 9}, {0, 0, 0, 1}};
        for (int d = 0; d < 3; d++) {
            for (int what = 0; what < 4; what++) {
                Due.is("ofDeed(" + d + ", " + what + ")", x.ofDeed(d, what), due[d][what]);
            }
            Due.is("what below", x.ofDeed(d, -1), -2);
            Due.is("what above", x.ofDeed(d, 4), -2);
        }
        Due.is("d below", x.ofDeed(-1, 0), -1);
        Due.is("d above", x.ofDeed(3, 0), -1);
        Due.is("both", x.ofDeed(3, 4), -1);
        Due.is("far", x.ofDeed(Integer.MAX_VALUE, 0), -1);
    }

    private static void minutes() {
        SameTuesday x = new SameTuesday();
        Due.is("outside ahead of state", x.minutes(0), -2);
        Due.is("outside ahead of state", x.minutes(61), -2);
        Due.is("no tuesday", x.minutes(60), -3);
        x = Due.of("s;h3060");
        Due.is("had", x.minutes(1), 60);
        Due.is("has", x.many(2), 1);
        Due.is("outside", x.minutes(0), -2);
        Due.is("outside", x.minutes(61), -2);
        Due.is("outside", x.minutes(-1), -2);
        Due.is("has", x.many(2), 1);
        Due.is("had", x.minutes(30), 1);
        Due.is("its happening is behind it", x.soonest(1), -9);
        Due.is("had", x.minutes(31), 30);
        Due.is("its happening is in it", x.soonest(1), 30);
        Due.is("had", x.minutes(60), 31);
    }

    private static void shift() {
        SameTuesday x = new SameTuesday();
        Due.is("no happening", x.shift(0, 0), -1);
        x = Due.of("s;h3060;h4061");
        Due.is("no such one", x.shift(2, 60), -1);
        Due.is("no such one", x.shift(-1, 0), -1);
        Due.is("outside", x.shift(0, 60), -2);
        Due.is("outside", x.shift(0, -1), -2);
        Due.is("was", x.ofHappening(0, 1), 30);
        Due.is("soonest", x.soonest(1), 30);
        Due.is("was", x.shift(0, 59), 30);
        Due.is("is", x.ofHappening(0, 1), 59);
        Due.is("soonest", x.soonest(1), 59);
        Due.is("was", x.shift(0, 0), 59);
        Due.is("soonest", x.soonest(1), 0);
        Due.is("the other one", x.ofHappening(1, 1), 40);
        Due.is("soonest of both", x.soonest(3), 40);
        x.minutes(5);
        Due.is("behind the day, too", x.shift(0, 30), 0);
        Due.is("then it never comes about", x.soonest(1), -9);
    }
}
