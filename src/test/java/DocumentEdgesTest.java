import java.io.IOException;
import java.nio.file.Files;
import java.nio.file.Path;

/**
 * The document from its first line on: each sentence of the Terms and of promises 1 to 30, whole, with answers that
 * would be others if it did not hold. SentencesTest sees to it that none is left out. Run from the project's folder.
 */
public final class DocumentEdgesTest {
    /** Facts 0, 1 and 2 by happenings of each kind; deeds that make fact 1, 3 and 5 so. */
    private static final String TOWN = "s;h0360;m1001;c1502;h2023,6163,1341,2502";

    public static void main(String[] args) throws IOException {
        refusals();
        faults();
        texts();
        kinds();
        whatHappens();
        minutes();
        rows();
        canBe();
        laws();
        othersAndOdds();
        sheetsAndParts();
        sections();
        promisesOfTheDay();
        promisesOfDaysLived();
        promisesOfWhatCanBe();
        promisesOfTheLaw();
        promisesOfOthers();
        promisesOfSheets();
        promisesOfParts();
        Due.end();
    }

    private static void refusals() {
        Due.sentence(0, "REFUSALS, in the order in which a call's line tells them: UNKNOWN (there is no such HAPPENING, DEED, SHEET, place), OUTSIDE (another number is not as told), STATE (as told), FULL; they change nothing (but fault(), of a call that names FAULTS).");
        SameTuesday x = Due.of(TOWN);
        Due.is("no such happening", x.shift(4, 60), -1);
        Due.is("no such deed", x.ofDeed(3, 9), -1);
        Due.is("no such sheet", x.lose(4), -1);
        Due.is("no such place", x.laws(-2), -1);
        Due.is("not as told", x.shift(3, 60), -2);
        Due.is("as told", new SameTuesday().day(0), -3);
        for (int k = 0; k < 8; k++) {
            x.day(1);
        }
        Due.is("full, but outside ahead of it", x.day(64), -2);
        Due.is("full", x.day(0), -4);
        Due.is("days as they were", x.many(3), 8);
        Due.fault("a fault", x, x.put(3, 0, 0), -11, 1);
        Due.fault("a refusal of a call that names faults", x, x.put(4, 0, 0), -1, 0);
        Due.is("a fault once more", x.put(3, 0, 0), -11);
        Due.fault("a refusal of one that names none", x, x.lose(4), -1, 1);
    }

    private static void faults() {
        Due.sentence(0, "FAULTS are the machine's: 1 NULL (there is nothing), 2 CAST (it is of another lane, kind), 3 INDEX (of cells from i on also where i is not 0 .. how many there are, if none of them is taken, too), 4 SIZE (a length below 0).");
        SameTuesday x = Due.of(TOWN);
        Due.fault("nothing", x, x.tuesday(3, 0, 0, 1), -11, 1);
        Due.fault("another lane", x, x.tuesday(0, 1, 0, 1), -12, 2);
        Due.fault("another kind", x, x.as(0, 1), -12, 2);
        Due.fault("beyond", x, x.tuesday(0, 0, 40, 1), -13, 3);
        Due.fault("none from beyond", x, x.live(0, 0, 41, 0, 0), -13, 3);
        Due.fault("none from ahead", x, x.live(0, 0, -1, 0, 0), -13, 3);
        Due.fault("none from the end on", x, x.live(0, 0, 40, 0, 0), -9, 0);
        Due.fault("a length below 0", x, x.sheet(0, 0, -1), -14, 4);
        Due.sentence(0, "Of a call the first that is come to, in the order told; it answers -10 less it (LOST, where a long is answered, as for refusals) and changes nothing; fault() tells it.");
        Due.fault("another lane, length below 0", x, x.tuesday(0, 2, 0, -1), -12, 2);
        Due.fault("a long", x, x.cell(0, 40, 0), SameTuesday.LOST, 3);
        Due.fault("a long, refused", x, x.cell(4, 0, 0), SameTuesday.LOST, 0);
        Due.is("cells as they were", x.cell(0, 39, 0), '2');
        Due.sentence(0, "NONE is -9.");
        Due.is("the constant", SameTuesday.NONE, -9);
        Due.is("no bar", x.bar(0), -9);
        Due.sentence(0, "Sets are told as bits (bit k for number k).");
        Due.is("facts 0, 2 and 3", Due.ends(x), 1 + 4 + 8);
        Due.is("happenings 0, 2 and 3", Due.hangs(x), 1 + 4 + 8);
        Due.sentence(0, "Shares are told as upper and lower number (above 0) in least terms.");
        Due.is("32 of 64 as 1 of 2", Due.odds(x, 1), 1002);
        Due.is("none of 16 as 0 of 1", Due.odds(x, 32), 1);
    }

    private static void texts() {
        Due.sentence(0, "A TUESDAY by a TEXT: s, then 1 to 6 HAPPENINGS, numbered from 0 on, each: ; and a letter, a digit 0 .. 5 and a digit 0 .. 9 (MINUTE), a digit 0 .. 6 (NEED), a digit 0 .. 5 (FACT); then 0 to 5 DEEDS, numbered from 0 on, each: , and a digit 0 .. 6 (NEED), a digit 0 .. 5 (FACT), a digit 0 .. 6 (UNDOES), a digit 1 .. 9 (LONG, minutes).");
        SameTuesday x = Due.of("s;h0960;m5905,6069,0501");
        int[][] happenings = {{0, 9, 6, 0}, {1, 59, 0, 5}};
        int[][] deeds = {{6, 0, 6, 9}, {0, 5, 0, 1}};
        for (int what = 0; what < 4; what++) {
            for (int k = 0; k < 2; k++) {
                Due.is("of happening " + k, x.ofHappening(k, what), happenings[k][what]);
                Due.is("of deed " + k, x.ofDeed(k, what), deeds[k][what]);
            }
        }
        Due.is("six happenings, four deeds", Due.text(x, "s;h0000;h0000;h0000;h0000;h0000;h0000,0001,0001,0001,0001"), 6);
        Due.is("five deeds", Due.text(x, "s;h0000,0001,0001,0001,0001,0001"), 1);
        Due.is("as many", x.many(1), 5);
        Due.is("no happening", Due.text(x, "s,0001"), -101);
        Due.is("long 0", Due.text(x, "s;h0000,0000"), -111);
        Due.sentence(0, "FIRST FAULT: the place (from 0 on) of the first code with which no TEXT goes on (the ; of a seventh HAPPENING, of one behind a DEED, the , of a sixth DEED); how many codes there are, if it just ends too soon.");
        Due.is("at once", Due.text(x, "S;h0000"), -100);
        Due.is("a seventh", Due.text(x, "s;h0000;h0000;h0000;h0000;h0000;h0000;h0000"), -137);
        Due.is("behind a deed", Due.text(x, "s;h0000,0001;h0000"), -112);
        Due.is("a sixth", Due.text(x, "s;h0000,0001,0001,0001,0001,0001,0001"), -132);
        Due.is("too soon", Due.text(x, "s;h0000,000"), -111);
        Due.is("no code", Due.text(x, ""), -100);
    }

    private static void kinds() {
        Due.sentence(0, "(Codes: s 115, h 104, m 109, c 99, ; 59, comma 44, digits 48 .. 57.)");
        int[] codes = {115, 59, 104, 48, 57, 54, 48, 59, 109, 53, 57, 48, 53, 59, 99, 48, 48, 54, 49, 44, 54, 48, 54, 57};
        SameTuesday x = new SameTuesday();
        x.sheet(0, 1, codes.length);
        for (int i = 0; i < codes.length; i++) {
            x.put(0, i, codes[i]);
        }
        Due.is("codes by their numbers", x.tuesday(0, 1, 0, codes.length), 3);
        Due.is("the second's minute", x.ofHappening(1, 1), 59);
        Due.sentence(0, "Kinds: 0 HAPPENING (h); 1 MISHAP (m), a HAPPENING; 2 CAPRICE (c), a MISHAP.");
        for (int h = 0; h < 3; h++) {
            Due.is("kind of " + h, x.ofHappening(h, 0), h);
            for (int kind = 0; kind < 3; kind++) {
                Due.is(h + " as " + kind, x.as(h, kind), kind <= h ? 1 : Due.CAST);
            }
        }
        Due.sentence(0, "A TEXT that is taken makes all anew: the day has 60 MINUTES, no DAYS were lived.");
        x.minutes(7);
        x.day(3);
        x.shift(0, 1);
        Due.is("taken again", x.tuesday(0, 1, 0, codes.length), 3);
        Due.is("minutes", x.many(2), 60);
        Due.is("days", x.many(3), 0);
        Due.is("laws", x.laws(-1), 64);
        Due.is("the first's minute", x.ofHappening(0, 1), 9);
    }

    private static void whatHappens() {
        Due.sentence(0, "FACTS 0 .. 5 are so, or not; none is as the day begins.");
        Due.is("none", Due.at(Due.of("s;h0160"), 0), 0);
        Due.is("each", Due.ends(Due.of("s;h0060;h0061;h0062;h0063;h0064;h0065")), 63);
        Due.sentence(0, "NEED 6 is always met, another one if that FACT is so; UNDOES 6 is none.");
        Due.is("the second's is not met", Due.ends(Due.of("s;h0060;h0012;h0003")), 1 + 8);
        Due.is("none undone", Due.ends(Due.of("s;h0060;h0061,6261"), 0, 0), 7);
        Due.sentence(0, "A HAPPENING comes about, if its NEED is met: its FACT becomes so.");
        Due.is("is so already, too", Due.ends(Due.of("s;h0060;h0160")), 1);
        Due.sentence(0, "A MISHAP likewise: its FACT becomes not so.");
        Due.is("was so", Due.ends(Due.of("s;h0060;h0061;m0101")), 1);
        Due.is("was not", Due.ends(Due.of("s;h0060;m0101")), 1);
        Due.is("need not met", Due.ends(Due.of("s;h0060;m0110")), 1);
        Due.sentence(0, "A CAPRICE: its FACT becomes what it was not.");
        Due.is("was so", Due.ends(Due.of("s;h0060;c0160")), 0);
        Due.is("was not", Due.ends(Due.of("s;h0060;c0161")), 3);
        Due.is("need not met", Due.ends(Due.of("s;h0060;c0120")), 1);
    }

    private static void minutes() {
        Due.sentence(0, "MINUTES 0 on, as many as the day has.");
        SameTuesday x = Due.of("s;h0960;h1061");
        x.minutes(10);
        Due.is("minute 9 is of ten, 10 is not", Due.ends(x), 1);
        Due.sentence(0, "In each, in order: HAPPENINGS of that MINUTE by numbers; a DEED that ends in it (its FACT becomes so, then the one it UNDOES not so); then one may begin.");
        Due.is("a happening that needs the one ahead", Due.ends(Due.of("s;h0560;h0501")), 3);
        Due.is("one that needs the one behind", Due.ends(Due.of("s;h0501;h0560")), 1);
        Due.is("a deed's end is behind them", Due.ends(Due.of("s;h0501,6065"), 0, 0), 1);
        Due.is("undone behind its fact", Due.ends(Due.of("s;h5960,6111"), 0, 0), 1);
        Due.is("one begins behind that end", Due.ends(Due.of("s;h5960,6163,1261"), 0, 0, 3, 1), 7);
        Due.sentence(0, "A DEED begun in a MINUTE b ends in b and LONG.");
        x = Due.of("s;h5960,6169");
        Due.is("not yet", Due.at(x, 12, 4, 0), 0);
        Due.is("then", Due.at(x, 13, 4, 0), 2);
        Due.sentence(0, "It can be begun, if none goes on, its NEED is met then, and it ends in a MINUTE of the day.");
        x = Due.of("s;h0560;m2060,6163,0262");
        Due.is("one goes on", Due.wrong(x, 5, 0, 7, 1), 1);
        Due.is("none does", Due.wrong(x, 5, 0, 8, 1), -9);
        Due.is("not met yet", Due.wrong(x, 4, 1), 0);
        Due.is("met", Due.wrong(x, 5, 1), -9);
        Due.is("met as it is begun, not as it ends", Due.ends(x, 19, 1), 4);
        Due.is("not met any more", Due.wrong(x, 20, 1), 0);
        Due.is("in the last minute", Due.wrong(x, 56, 0), -9);
        Due.is("behind it", Due.wrong(x, 57, 0), 0);
    }

    private static void rows() {
        Due.sentence(0, "A ROW of DEEDS: pairs (MINUTE, DEED).");
        SameTuesday x = Due.of("s;h5960,6163,6261,1361");
        Due.is("minute 1, deed 0", Due.at(x, 4, 1, 0), 2);
        Due.is("minute 0, deed 1", Due.at(x, 4, 0, 1), 4);
        Due.sentence(0, "FIRST WRONG: the first pair that could not be (its MINUTE is not above that of each pair ahead of it, too).");
        Due.is("the last of three", Due.wrong(x, 0, 0, 3, 1, 3, 1), 2);
        Due.is("below", Due.wrong(x, 9, 0, 8, 1), 1);
        Due.is("two that could not", Due.wrong(x, 0, 1, 2, 2, 3, 2), 1);
        Due.sentence(0, "ENDS: the FACTS that are so behind the last MINUTE, if all pairs that could not be are left out, one after another (a DEED left out does not go on).");
        Due.is("one left out, then one that can be", Due.ends(x, 0, 2, 1, 1), 1 + 4);
        Due.is("two left out", Due.ends(x, 0, 0, 1, 1, 2, 1, 3, 2), 1 + 2 + 8);
        Due.is("that of the last minute, too", Due.ends(x), 1);
        Due.sentence(0, "HANGS of a ROW: HAPPENINGS without each of which (alone) it ENDS otherwise, as a set.");
        Due.is("either of two will do", Due.hangs(Due.of("s;h0060;h0160;h0261")), 4);
        Due.is("a deed hangs on it", Due.hangs(Due.of("s;h0060;m1060,0162"), 1, 0), 1 + 2);
    }

    private static void canBe() {
        Due.sentence(0, "CAN BE: states (sets of FACTS) that there are as a MINUTE ends, by any DEEDS (one that goes on then, has not ended, is no matter).");
        SameTuesday x = Due.of("s;h0560,6163,1211");
        Due.is("none done", x.can(5, 1), 1);
        Due.is("one done", x.can(5, 3), 1);
        Due.is("two done, the second undoes", x.can(5, 5), 1);
        Due.is("not ended", x.can(2, 0), 1);
        Due.is("nor is its fact so", x.can(2, 2), 0);
        Due.sentence(0, "SOONEST for a set of FACTS: the first MINUTE as which ends all of them are so, by some DEEDS.");
        Due.is("by one", x.soonest(2), 3);
        Due.is("by two", x.soonest(4), 4);
        Due.is("with a happening", x.soonest(5), 5);
        Due.is("none are to be", x.soonest(0), 0);
        Due.sentence(0, "BAR: of a set the first pair a, b (a below b) of which not both are so as the day ends, by any DEEDS; NONE: each two can.");
        x = Due.of("s;h5860,6125,6215");
        Due.is("1 and 2 undo each other", x.bar(7), 12);
        Due.is("0 and 3 ahead of these", x.bar(15), 3);
        Due.is("0 and 1 can", x.bar(3), -9);
    }

    private static void laws() {
        Due.sentence(0, "The LAW is a set of FACTS: the day ends for good, if all of them are so as it ends.");
        SameTuesday x = Due.of(TOWN);
        Due.is("any set", x.laws(-1), 64);
        Due.is("none of the facts is a set, too", x.laws(0), 0);
        Due.sentence(0, "DAYS lived, 8 at most, numbered by how many there are: sets of FACTS by which it did not.");
        Due.is("a day by which no fact was so", x.day(0), 0);
        Due.is("the law is not the empty set then", x.laws(0), 1);
        Due.is("two facts were so", x.day(6), 1);
        for (int k = 2; k < 8; k++) {
            Due.is("day " + k, x.day(6), k);
        }
        Due.is("a ninth", x.day(6), -4);
        Due.sentence(0, "LAWS: sets (0 .. 63) that are not all within one of the DAYS lived, rising.");
        Due.is("all but 0, 2, 4 and 6", x.laws(-1), 60);
        int[] first = {1, 3, 5, 7, 8};
        for (int k = 0; k < first.length; k++) {
            Due.is("law " + k, x.laws(k), first[k]);
        }
        Due.is("the last", x.laws(59), 63);
        Due.sentence(0, "FEWEST: of these the one of the fewest FACTS: of several the least.");
        Due.is("one fact", x.fewest(), 1);
        x.forget(8);
        Due.is("no fact", x.fewest(), 0);
        x.day(31);
        Due.is("the least of one fact left", x.fewest(), 32);
        x.forget(1);
        Due.sentence(0, "NEXT: of states that CAN BE as the last MINUTE ends, that by which the LAWS part the most evenly: so many are all within it, the others not: the lesser of both numbers is the greatest: of several the least state.");
        x = Due.of("s;h0060,6163,6263,6363,6463,6563");
        Due.is("32 and 32, by the least of five facts", x.next(0), 31);
        Due.is("the lesser number", x.next(1), 32);
        x.day(31);
        Due.is("32 are left, 16 within", x.next(0), 47);
        Due.is("the lesser number", x.next(1), 16);
        x.minutes(1);
        Due.is("but one state can be", x.next(0), 1);
        Due.is("none is within it", x.next(1), 0);
    }

    private static void othersAndOdds() {
        Due.sentence(0, "OTHERS: one more remembers, too, and does one DEED in a MINUTE, beside him (if it can be begun then, by its NEED, and ends in the day; it ends behind his): pairs (MINUTE, DEED) by which a ROW ENDS in a told set: rising by MINUTES, DEEDS.");
        SameTuesday x = Due.of("s;h0160,0133,6311");
        x.minutes(6);
        // His deed 1, from 2 to 3, undoes fact 1; the other's deed 0 undoes fact 3 as it makes 1 so.
        Due.is("deed 0 in minutes 1 and 2", Due.others(x, 3, -1, 2, 1), 2);
        Due.is("the first", Due.others(x, 3, 0, 2, 1), 10);
        Due.is("the second", Due.others(x, 3, 1, 2, 1), 20);
        Due.is("no third", Due.others(x, 3, 2, 2, 1), -9);
        Due.is("deed 1 in each minute but the last", Due.others(x, 9, -1, 2, 1), 5);
        Due.is("the last of them", Due.others(x, 9, 4, 2, 1), 41);
        x = Due.of("s;h0160,6161,6211");
        x.minutes(3);
        Due.is("both end in minute 1, the other's behind his", Due.others(x, 1 + 4, 0, 0, 0), 1);
        Due.is("and so it undoes", Due.others(x, 1 + 4, -1, 0, 0), 2);
        Due.sentence(0, "ODDS of a ROW: if each HAPPENING is there, or is not, all such sets alike: the share of those by which it ENDS so that a told set is within that.");
        x = Due.of("s;h0060;h0101;h0261,1361");
        Due.is("by either of two ways", Due.odds(x, 2), 5008);
        Due.is("a deed by it", Due.odds(x, 2 + 8, 5, 0), 5008);
        Due.is("no fact is told", Due.odds(x, 0), 1001);
    }

    private static void sheetsAndParts() {
        Due.sentence(0, "SHEETS 0 .. 3 have nothing (at first), or a row of 0 .. 60 numbers (0 at first) of a LANE: 0 bytes, 1 shorts, 2 ints; what comes to a cell of it is cut to its LANE.");
        SameTuesday x = new SameTuesday();
        long[] cut = {(byte) 74565, (short) 74565, 74565};
        for (int k = 0; k < 4; k++) {
            Due.is("nothing", x.put(k, 0, 1), Due.NULL);
            Due.is("a row", x.sheet(k, k % 3, 60), 1);
            Due.is("0 at first", x.cell(k, 59, k % 3), 0);
            Due.is("put", x.put(k, 59, 74565), 1);
            Due.is("cut", x.cell(k, 59, k % 3), cut[k % 3]);
            Due.is("a row of none", x.sheet(k, 0, 0), 1);
            Due.is("has no cell", x.put(k, 0, 1), Due.INDEX);
        }
        Due.sentence(0, "TELLING of HAPPENINGS by bodies that leave their number in TRACE (an int that wraps, 0 at first, becomes 31 times it and the number) as they begin: HAPPENING (1): its MINUTE.");
        x = Due.of("s;h0760;m0860;c0960");
        Due.is("at first", x.trace(), 0);
        Due.is("its minute", x.tell(0), 7);
        int trace = 1;
        Due.is("by 1", x.trace(), trace);
        Due.sentence(0, "MISHAP (2): what HAPPENING's gives, and 100.");
        Due.is("its minute, and 100", x.tell(1), 108);
        trace = (trace * 31 + 2) * 31 + 1;
        Due.is("by 2, 1", x.trace(), trace);
        Due.sentence(0, "CAPRICE (3): what MISHAP's gives, and what HAPPENING's gives (MISHAP's left out).");
        Due.is("109 and 9", x.tell(2), 118);
        trace = (((trace * 31 + 3) * 31 + 2) * 31 + 1) * 31 + 1;
        Due.is("by 3, 2, 1, 1, wrapped", x.trace(), trace);
        Due.sentence(0, "RHYMED by a lent body (4): its number; CAPRICES have their own (5): 40.");
        Due.is("its number", x.rhyme(1), 1);
        Due.is("its own", x.rhyme(2), 40);
        Due.is("by 4, 5", x.trace(), (trace * 31 + 4) * 31 + 5);
    }

    /** What the document says of the interface stands in the class as a remark ahead of those calls. */
    private static void sections() throws IOException {
        String source = Files.readString(Path.of("src/main/java/SameTuesday.java"));
        Due.sentence(0, "Ahead of the calls `tuesday`, `ofHappening`, `ofDeed`, `minutes`, `shift` the interface says: ---- 1 the day.");
        section(source, "// ---- 1 the day\n", "tuesday", "ofHappening", "ofDeed", "minutes", "shift");
        Due.sentence(0, "Ahead of the calls `live`, `at`, `hangs` the interface says: ---- 2 days lived.");
        section(source, "// ---- 2 days lived\n", "live", "at", "hangs");
        Due.sentence(0, "Ahead of the calls `can`, `soonest`, `bar` the interface says: ---- 3 what can be.");
        section(source, "// ---- 3 what can be\n", "can", "soonest", "bar");
        Due.sentence(0, "Ahead of the calls `day`, `forget`, `laws`, `fewest`, `next` the interface says: ---- 4 the law.");
        section(source, "// ---- 4 the law\n", "day", "forget", "laws", "fewest", "next");
        Due.sentence(0, "Ahead of the calls `others`, `odds` the interface says: ---- 5 others, odds.");
        section(source, "// ---- 5 others, odds\n", "others", "odds");
        Due.sentence(0, "Ahead of the calls `sheet`, `lose`, `put`, `cell`, `copy`, `tell`, `rhyme`, `as`, `trace`, `fault`, `many` the interface says: ---- 6 sheets, parts.");
        section(source, "// ---- 6 sheets, parts\n", "sheet", "lose", "put", "cell", "copy", "tell", "rhyme", "as", "trace", "fault", "many");
    }

    private static void section(String source, String says, String... calls) {
        int from = source.indexOf(says);
        int to = source.indexOf("// ----", from + says.length());
        Due.holds("the class says it", from >= 0 && to > from);
        String part = from >= 0 && to > from ? source.substring(from, to) : "";
        int place = 0;
        for (String call : calls) {
            int found = Math.max(part.indexOf("public int " + call + "("), part.indexOf("public long " + call + "("));
            Due.holds(call + " stands behind it, in the document's order", found > place);
            place = found;
        }
        Due.is("no other call does", part.split("\n    public ", -1).length - 1, calls.length);
    }

    private static void promisesOfTheDay() {
        Due.sentence(1, "No TUESDAY (no HAPPENINGS), SHEETS have nothing.");
        SameTuesday x = new SameTuesday();
        Due.is("happenings", x.many(0), 0);
        Due.is("no tuesday", x.fewest(), -3);
        for (int k = 0; k < 4; k++) {
            Due.is("a sheet that had nothing", x.lose(k), 0);
        }
        Due.sentence(2, "A TUESDAY by a TEXT of n cells of a SHEET from i on, taken as a row of a LANE: how many HAPPENINGS; -100 less the FIRST FAULT. UNKNOWN; OUTSIDE: lane; FAULTS CAST (nothing is no CAST), NULL, SIZE: n is below 0, INDEX: not all cells are there; -100 less it.");
        Due.write(x, 2, 1, "..s;h0560;m0901,6163..");
        Due.fault("no sheet, no lane", x, x.tuesday(4, 3, 9, -1), -1, 0);
        Due.fault("no lane, n below 0", x, x.tuesday(2, 3, 9, -1), -2, 0);
        Due.fault("another lane, n below 0", x, x.tuesday(2, 0, 99, -1), -12, 2);
        Due.fault("nothing, n below 0", x, x.tuesday(0, 0, 99, -1), -11, 1);
        Due.fault("n below 0, i beyond", x, x.tuesday(2, 1, 99, -1), -14, 4);
        Due.fault("too many cells", x, x.tuesday(2, 1, 2, 21), -13, 3);
        Due.fault("a wrong code", x, x.tuesday(2, 1, 2, 20), -118, 0);
        Due.fault("too soon", x, x.tuesday(2, 1, 2, 17), -117, 0);
        Due.is("there is none yet", x.many(0), 0);
        Due.fault("two happenings", x, x.tuesday(2, 1, 2, 18), 2, 0);
        Due.sentence(3, "Of a HAPPENING: 0 kind, 1 MINUTE, 2 NEED, 3 FACT. UNKNOWN; OUTSIDE.");
        int[] happening = {1, 9, 0, 1, -2};
        for (int what = 0; what < 5; what++) {
            Due.is("of happening 1", x.ofHappening(1, what), happening[what]);
            Due.is("of happening 2", x.ofHappening(2, what), -1);
        }
        Due.sentence(4, "Of a DEED: 0 NEED, 1 FACT, 2 UNDOES, 3 LONG. UNKNOWN; OUTSIDE.");
        int[] deed = {6, 1, 6, 3, -2};
        for (int what = 0; what < 5; what++) {
            Due.is("of deed 0", x.ofDeed(0, what), deed[what]);
            Due.is("of deed 1", x.ofDeed(1, what), -1);
        }
        Due.sentence(5, "The day has v MINUTES (1 .. 60): how many it had. OUTSIDE; STATE: there is no TUESDAY.");
        Due.is("it had 60", x.minutes(1), 60);
        Due.is("it had 1", x.minutes(60), 1);
        Due.is("0", x.minutes(0), -2);
        Due.is("61, no tuesday", new SameTuesday().minutes(61), -2);
        Due.is("no tuesday", new SameTuesday().minutes(60), -3);
        Due.sentence(6, "The MINUTE of a HAPPENING becomes v (0 .. 59): what it was. UNKNOWN; OUTSIDE.");
        Due.is("it was 5", x.shift(0, 59), 5);
        Due.is("it was 59", x.shift(0, 0), 59);
        Due.is("60", x.shift(0, 60), -2);
        Due.is("no such one", x.shift(2, 60), -1);
        Due.is("so in minute 0 already", Due.at(x, 0), 1);
    }

    private static void promisesOfDaysLived() {
        Due.sentence(7, "A ROW of n pairs, that are cells of a SHEET from i on (2 n): FIRST WRONG (what 0; NONE), ENDS, as a set (1). UNKNOWN: SHEET; OUTSIDE: lane, n (0 .. 20), what; FAULTS CAST, NULL, INDEX (2 n cells); STATE: there is no TUESDAY; then pair by pair OUTSIDE: it is no MINUTE (0 .. 59); UNKNOWN: it is no DEED.");
        SameTuesday x = Due.of("s;h0560,6163,6263");
        Due.row(x, 60, 2, 4, 0, 5, 1, 9, 2, 60, 0);
        Due.is("first wrong", x.live(1, 2, 2, 2, 0), 1);
        Due.is("none", x.live(1, 2, 2, 1, 0), -9);
        Due.is("ends", x.live(1, 2, 2, 2, 1), 3);
        Due.fault("no sheet, no lane", x, x.live(4, 3, 0, 21, 2), -1, 0);
        Due.fault("what, another lane", x, x.live(1, 1, 0, 1, 2), -2, 0);
        Due.fault("21, another lane", x, x.live(1, 1, 0, 21, 0), -2, 0);
        Due.fault("another lane", x, x.live(1, 1, 99, 1, 0), -12, 2);
        Due.fault("nothing", x, x.live(3, 1, 99, 1, 0), -11, 1);
        Due.fault("one cell too few", x, x.live(1, 2, 9, 1, 0), -13, 3);
        Due.fault("no minute, no deed", x, x.live(1, 2, 0, 1, 0), -2, 0);
        Due.fault("no deed, no minute behind it", x, x.live(1, 2, 2, 4, 0), -1, 0);
        SameTuesday none = new SameTuesday();
        Due.row(none, 60, 2);
        Due.fault("no tuesday, no minute", none, none.live(1, 2, 0, 1, 0), -3, 0);
        Due.fault("no tuesday, too few cells", none, none.live(1, 2, 0, 2, 0), -13, 3);
        Due.sentence(8, "FACTS that are so as MINUTE m ends (the last one of the day, if it has not so many) by such a ROW, as ENDS, as a set. As live() (OUTSIDE: m (0 .. 59) in the place of what).");
        int[] due = {0, 0, 0, 0, 0, 1, 1, 3, 3};
        for (int m = 0; m < due.length; m++) {
            Due.is("at " + m, x.at(m, 1, 2, 2, 2), due[m]);
        }
        x.minutes(7);
        Due.is("the last is 6, no deed ends in it", x.at(59, 1, 2, 2, 2), 1);
        x.minutes(60);
        Due.fault("60, another lane", x, x.at(60, 1, 1, 0, 1), -2, 0);
        Due.fault("no sheet, 60", x, x.at(60, 4, 1, 0, 1), -1, 0);
        Due.fault("a wrong pair behind minute 0", x, x.at(0, 1, 2, 2, 4), -1, 0);
        Due.sentence(9, "HANGS of such a ROW, as a set. As live(), without what.");
        Due.is("on the one happening", x.hangs(1, 2, 2, 2), 1);
        Due.fault("no sheet", x, x.hangs(4, 2, 2, 2), -1, 0);
        Due.fault("21", x, x.hangs(1, 2, 2, 21), -2, 0);
        Due.fault("no minute", x, x.hangs(1, 2, 0, 1), -2, 0);
        Due.fault("nothing", x, x.hangs(3, 2, 0, 1), -11, 1);
    }

    private static void promisesOfWhatCanBe() {
        Due.sentence(10, "Whether a state CAN BE as MINUTE m ends (the last one of the day, if it has not so many): 1, 0. OUTSIDE: m (0 .. 59), set (0 .. 63); STATE: there is no TUESDAY.");
        SameTuesday x = Due.of("s;h0560,6163,6263");
        Due.is("can", x.can(6, 7), 1);
        Due.is("cannot", x.can(5, 7), 0);
        x.minutes(6);
        Due.is("minute 5 is the last", x.can(6, 7), 0);
        x.minutes(60);
        Due.is("60", x.can(60, 0), -2);
        Due.is("64, no tuesday", new SameTuesday().can(0, 64), -2);
        Due.is("no tuesday", new SameTuesday().can(0, 0), -3);
        Due.sentence(11, "SOONEST; NONE: never. OUTSIDE: set; STATE: there is no TUESDAY.");
        Due.is("then", x.soonest(7), 6);
        Due.is("never", x.soonest(8), -9);
        Due.is("64, no tuesday", new SameTuesday().soonest(64), -2);
        Due.is("no tuesday", new SameTuesday().soonest(0), -3);
        Due.sentence(12, "BAR: 10 times a, and b; NONE. OUTSIDE: set; STATE: there is no TUESDAY.");
        Due.is("2 and 3", x.bar(12), 23);
        Due.is("0 and 3 is the first", x.bar(15), 3);
        Due.is("none", x.bar(7), -9);
        Due.is("64, no tuesday", new SameTuesday().bar(64), -2);
        Due.is("no tuesday", new SameTuesday().bar(0), -3);
    }

    private static void promisesOfTheLaw() {
        SameTuesday none = new SameTuesday();
        SameTuesday x = Due.of("s;h0560,6163,6263");
        Due.sentence(13, "A DAY lived: its number. OUTSIDE: set; STATE: there is no TUESDAY; FULL.");
        for (int k = 0; k < 8; k++) {
            Due.is("its number", x.day(k), k);
        }
        Due.is("full", x.day(1), -4);
        Due.is("64", x.day(64), -2);
        Due.is("-1, no tuesday", none.day(-1), -2);
        Due.is("no tuesday", none.day(0), -3);
        Due.sentence(14, "The last k DAYS (0 .. as many as there are) are forgotten: how many are left. OUTSIDE.");
        Due.is("six are left", x.forget(2), 6);
        Due.is("seven are not there", x.forget(7), -2);
        Due.is("-1", x.forget(-1), -2);
        Due.is("none is forgotten", x.forget(0), 6);
        Due.is("the next one's number", x.day(0), 6);
        Due.is("of none", none.forget(0), 0);
        Due.sentence(15, "LAWS: how many (k -1), the k-th; NONE: there are fewer. UNKNOWN: k below -1; STATE: there is no TUESDAY.");
        Due.is("all but 0 to 5", x.laws(-1), 58);
        Due.is("the first", x.laws(0), 6);
        Due.is("the last", x.laws(57), 63);
        Due.is("fewer", x.laws(58), -9);
        Due.is("-2, no tuesday", none.laws(-2), -1);
        Due.is("no tuesday", none.laws(-1), -3);
        Due.sentence(16, "FEWEST; NONE: there is none. STATE: there is no TUESDAY.");
        Due.is("of one fact", x.fewest(), 8);
        x.day(63);
        Due.is("none", x.fewest(), -9);
        Due.is("no tuesday", none.fewest(), -3);
        Due.sentence(17, "NEXT: the state (what 0), the lesser number (1). OUTSIDE; STATE: there is no TUESDAY.");
        x.forget(8);
        Due.is("the state", x.next(0), 7);
        Due.is("the lesser number", x.next(1), 8);
        Due.is("2, no tuesday", none.next(2), -2);
        Due.is("no tuesday", none.next(0), -3);
    }

    private static void promisesOfOthers() {
        Due.sentence(18, "OTHERS by a ROW that ENDS in a set: how many (k -1), the k-th: 10 times the MINUTE, and the DEED; NONE: there are fewer. UNKNOWN: k below -1, SHEET; OUTSIDE: set; else as hangs().");
        SameTuesday x = Due.of("s;h0560,6163,6263");
        Due.row(x, 5, 0, 60, 0);
        Due.is("deed 1 in minutes 0 to 56", x.others(7, -1, 1, 2, 0, 1), 57);
        Due.is("the second", x.others(7, 1, 1, 2, 0, 1), 11);
        Due.is("the last", x.others(7, 56, 1, 2, 0, 1), 561);
        Due.is("fewer", x.others(7, 57, 1, 2, 0, 1), -9);
        Due.fault("-2, set, nothing", x, x.others(64, -2, 3, 2, 0, 1), -1, 0);
        Due.fault("no sheet, set", x, x.others(64, 0, 4, 2, 0, 1), -1, 0);
        Due.fault("set, nothing", x, x.others(64, 0, 3, 2, 0, 1), -2, 0);
        Due.fault("nothing", x, x.others(63, 0, 3, 2, 0, 1), -11, 1);
        Due.fault("no minute", x, x.others(63, 0, 1, 2, 0, 2), -2, 0);
        Due.sentence(19, "ODDS of a ROW (which 0 the upper, 1 the lower number). LOST: OUTSIDE: set, which; else as hangs().");
        Due.is("the upper", x.odds(3, 1, 2, 0, 1, 0), 1);
        Due.is("the lower", x.odds(3, 1, 2, 0, 1, 1), 2);
        long lost = SameTuesday.LOST;
        Due.fault("set, nothing", x, x.odds(64, 3, 2, 0, 1, 0), lost, 0);
        Due.fault("which, nothing", x, x.odds(3, 3, 2, 0, 1, 2), lost, 0);
        Due.fault("nothing", x, x.odds(3, 3, 2, 0, 1, 0), lost, 1);
        Due.fault("no minute", x, x.odds(3, 1, 2, 0, 2, 0), lost, 0);
    }

    private static void promisesOfSheets() {
        SameTuesday x = new SameTuesday();
        Due.sentence(20, "A SHEET gets a new row: 1. UNKNOWN; OUTSIDE: lane, n above 60; SIZE.");
        Due.fault("a row", x, x.sheet(0, 1, 4), 1, 0);
        Due.fault("no sheet, lane", x, x.sheet(4, 3, -1), -1, 0);
        Due.fault("lane, n below 0", x, x.sheet(0, 3, -1), -2, 0);
        Due.fault("61", x, x.sheet(0, 1, 61), -2, 0);
        Due.fault("n below 0", x, x.sheet(0, 1, -1), -14, 4);
        Due.sentence(22, "Cell i of a SHEET becomes v: 1. UNKNOWN; NULL; INDEX.");
        Due.fault("a cell", x, x.put(0, 3, 40000), 1, 0);
        Due.fault("no sheet", x, x.put(-1, 9, 0), -1, 0);
        Due.fault("nothing", x, x.put(1, 9, 0), -11, 1);
        Due.fault("no cell", x, x.put(0, 4, 0), -13, 3);
        Due.sentence(23, "Cell i of what a SHEET has, taken as a row of a LANE. LOST: UNKNOWN, OUTSIDE: lane; FAULTS CAST (nothing is no CAST), NULL, INDEX.");
        long lost = SameTuesday.LOST;
        Due.fault("a cell, cut", x, x.cell(0, 3, 1), -25536, 0);
        Due.fault("no sheet", x, x.cell(4, 3, 1), lost, 0);
        Due.fault("lane", x, x.cell(0, 3, 3), lost, 0);
        Due.fault("another lane, no cell", x, x.cell(0, 4, 2), lost, 2);
        Due.fault("nothing", x, x.cell(1, 4, 2), lost, 1);
        Due.fault("no cell", x, x.cell(0, 4, 1), lost, 3);
        Due.sentence(24, "n cells of a SHEET from i on go to another one (perhaps the same) from j on, as they were: n. UNKNOWN; FAULTS NULL (the first, the other), CAST (unlike LANES), INDEX: i, j, n below 0 or beyond.");
        x.put(0, 0, 7);
        Due.fault("the same", x, x.copy(0, 0, 0, 1, 3), 3, 0);
        Due.is("as they were", x.cell(0, 1, 1), 7);
        Due.is("as they were", x.cell(0, 3, 1), 0);
        Due.fault("no other sheet, nothing", x, x.copy(1, 0, 4, 0, 1), -1, 0);
        Due.fault("the first has nothing", x, x.copy(1, 0, 0, 0, 9), -11, 1);
        Due.fault("the other has nothing", x, x.copy(0, 0, 1, 0, 9), -11, 1);
        x.sheet(1, 2, 9);
        Due.fault("unlike lanes", x, x.copy(0, 0, 1, 0, 9), -12, 2);
        x.sheet(1, 1, 2);
        for (int[] at : new int[][] {{-1, 0, 1}, {0, -1, 1}, {0, 0, -1}, {2, 0, 3}, {0, 1, 2}, {5, 0, 0}, {0, 3, 0}}) {
            Due.fault("index", x, x.copy(0, at[0], 1, at[1], at[2]), -13, 3);
        }
        Due.fault("no cell, from the ends on", x, x.copy(0, 4, 1, 2, 0), 0, 0);
        Due.sentence(21, "A SHEET has nothing: 1; 0: it had nothing. UNKNOWN.");
        Due.is("it had", x.lose(0), 1);
        Due.is("it had nothing", x.lose(0), 0);
        Due.is("no sheet", x.lose(4), -1);
    }

    private static void promisesOfParts() {
        SameTuesday x = Due.of("s;h0560;m0660;c0760");
        Due.sentence(25, "TELLING of a HAPPENING. UNKNOWN.");
        Due.is("a mishap's", x.tell(1), 106);
        Due.is("no such one", x.tell(3), -1);
        Due.sentence(28, "TRACE.");
        Due.is("by 2, 1", x.trace(), 63);
        Due.sentence(26, "How it is RHYMED. UNKNOWN.");
        Due.is("a mishap's", x.rhyme(1), 1);
        Due.is("no such one", x.rhyme(-1), -1);
        Due.sentence(27, "A HAPPENING, taken as one of a kind: 1. UNKNOWN; OUTSIDE; CAST: it is none (each is a HAPPENING, too; a CAPRICE is a MISHAP).");
        Due.fault("a mishap as a happening", x, x.as(1, 0), 1, 0);
        Due.fault("a caprice as a mishap", x, x.as(2, 1), 1, 0);
        Due.fault("a mishap is no caprice", x, x.as(1, 2), -12, 2);
        Due.fault("no such one, kind", x, x.as(3, 3), -1, 0);
        Due.fault("no kind", x, x.as(0, 3), -2, 0);
        Due.sentence(29, "The FAULT of the latest call that names one: 0: it came to none, or was refused (0 ahead of any).");
        Due.is("ahead of any", new SameTuesday().fault(), 0);
        x.as(0, 2);
        x.day(1);
        x.tell(9);
        Due.is("calls that name none are no matter", x.fault(), 2);
        x.as(0, 0);
        Due.is("none", x.fault(), 0);
        Due.sentence(30, "How many: 0 HAPPENINGS, 1 DEEDS, 2 MINUTES of the day, 3 DAYS lived (0 all without a TUESDAY). OUTSIDE.");
        int[] due = {3, 0, 60, 1, -2};
        for (int what = 0; what < 5; what++) {
            Due.is("many(" + what + ")", x.many(what), due[what]);
            Due.is("without a tuesday", new SameTuesday().many(what), what < 4 ? 0 : -2);
        }
    }
}
