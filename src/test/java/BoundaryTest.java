import java.io.IOException;
import java.nio.charset.StandardCharsets;
import java.nio.file.Files;
import java.nio.file.Path;
import java.util.ArrayList;
import java.util.List;
import java.util.TreeMap;

/**
 * A test for each sentence of the document, at the bounds that it names. Each test quotes its sentence; at the end the
 * quotes are looked up in the document, and its sentences among the quotes, so that none is without a test.
 */
public final class BoundaryTest {
    private static final int NONE = LandReform.NONE;
    private static final int LOW = Integer.MIN_VALUE;
    private static final int HIGH = Integer.MAX_VALUE;
    private static final int TERMS = 0;
    private static final int PAGES = 15;
    private static final Path DOCUMENT = Path.of("../shared/DOC.md");

    private static final TreeMap<Integer, List<String>> quotes = new TreeMap<>();
    private static String part = "";
    private static int checks = 0;
    private static int wrong = 0;

    private interface Story {
        void tell(LandReform x);
    }

    private interface Call {
        int on(LandReform x);
    }

    public static void main(String[] args) throws IOException {
        termsOfTheFirstPart();
        termsOfTheOtherParts();
        promises();
        lookUpTheQuotes();
        System.out.println(checks + " checks, " + wrong + " wrong");
        if (wrong != 0) {
            System.exit(1);
        }
    }

    private static void termsOfTheFirstPart() {
        manyCalls();
        constants();
        persons();
        fields();
        days();
        transfers();
        actText();
        actNumbers();
        soilNumbers();
        yearsNumbers();
        actTokens();
        actBlanks();
        actStatements();
        faultOfTheSeventeenth();
        faultPlaces();
        faultWhereMoreMustCome();
        actInForce();
        exemptEach();
        actDefaults();
        standards();
    }

    private static void termsOfTheOtherParts() {
        countedAsTheDayEnded();
        countedBehindTheDay();
        countedToAnother();
        holding();
        mayHave();
        aboveByHowMuch();
        keptSets();
        keptOfSeveral();
        takenIfAbove();
        tenants();
        tenantsOfAsManyYears();
        givenWays();
        givenOfSeveral();
        ringsOfHowMany();
        ringsWanted();
        ringsLeft();
        swapped();
        partsOfSales();
        putOff();
        salesInAll();
    }

    private static void promises() {
        promise1NewObject();
        promise2Person();
        promise3Akin();
        promise4Field();
        promise5Day();
        promise6Transfer();
        promise7Feed();
        promise7FeedRefused();
        promise8Act();
        promise8ActWithAFault();
        promise8ActRefused();
        promise9Fault();
        promise10Told();
        promise11Owned();
        promise12House();
        promise13Kept();
        promise13KeptRefused();
        promise14Taken();
        promise15Share();
        promise15ShareRefused();
        promise16Given();
        promise17Rings();
        promise18Swap();
        promise19Sell();
        promise19SellRefused();
        promise20Year();
        promise21Sale();
        promise22Count();
    }

    // ---- how it is checked

    private static void sentence(int section, String words) {
        part = (section == TERMS ? "Terms: " : "Promise " + section + ": ") + words;
        quotes.computeIfAbsent(section, s -> new ArrayList<>()).add(words);
    }

    private static void due(String what, int got, int want) {
        checks++;
        if (got != want) {
            wrong++;
            System.out.println(part + "\n    " + what + " answered " + got + ", due is " + want);
        }
    }

    private static void due(String what, boolean got, boolean want) {
        due(what, got ? 1 : 0, want ? 1 : 0);
    }

    /** Numbers out of bounds, those among them that a byte or a short would take for one within. */
    private static int[] outside(int least, int most) {
        return new int[] {least - 1, most + 1, LOW, HIGH, least + 256, least + 65536, most - 65536, LOW + most};
    }

    /** The call is refused, and whatever is asked or done then goes as it goes without that call. */
    private static void refused(String what, Story story, Call call, int answer) {
        for (int page = 0; page < PAGES; page++) {
            LandReform with = new LandReform();
            LandReform without = new LandReform();
            story.tell(with);
            story.tell(without);
            due(what, call.on(with), answer);
            List<Integer> got = page(with, page);
            List<Integer> want = page(without, page);
            for (int i = 0; i < want.size(); i++) {
                due("behind " + what + ", page " + page + ", answer " + i, got.get(i), want.get(i));
            }
        }
    }

    /** Some of what an object answers, at most 150 calls, so that with a story's they stay below 512. */
    private static List<Integer> page(LandReform x, int page) {
        List<Integer> answers = new ArrayList<>();
        if (page == 0) {
            countsAndHouses(x, answers);
        } else if (page <= 5) {
            for (int i = 0; i < 120; i++) {
                answers.add(x.told(page * 12 - 12 + i / 10, i % 10));
            }
        } else if (page == 6) {
            for (int i = 0; i < 120; i++) {
                answers.add(x.owned(i / 2, i % 2 * 5));
            }
        } else if (page == 7) {
            for (int i = 0; i < 40; i++) {
                answers.add(x.kept(i / 10, i % 10 - 1));
                answers.add(x.taken(i / 10, i % 10 - 1));
            }
        } else if (page == 8) {
            for (int i = 0; i < 120; i++) {
                answers.add(x.sale(i / 6, i % 6));
            }
        } else {
            goOn(x, page, answers);
        }
        return answers;
    }

    private static void countsAndHouses(LandReform x, List<Integer> answers) {
        for (int i = 0; i < 8; i++) {
            answers.add(x.count(i));
        }
        answers.add(x.fault());
        for (int i = 0; i < 100; i++) {
            answers.add(x.house(i / 5, i % 5));
        }
    }

    /** Calls that change something: they answer by what can't be asked for, such as who is akin. */
    private static void goOn(LandReform x, int page, List<Integer> answers) {
        switch (page) {
            case 9:
                for (int i = 0; i < 80; i++) {
                    answers.add(x.year(i / 4, i % 4 != 1));
                }
                break;
            case 10:
                answers.add(x.act(x.count(6)));
                countsAndHouses(x, answers);
                break;
            case 11:
                for (int i = 0; i < 60; i++) {
                    answers.add(x.given(i / 10, i % 10, 1 + i % 5, i % 6 - 1));
                    answers.add(x.rings(i / 10, 2 + i % 7, i % 8 - 1));
                }
                answers.add(x.swap(0, 4));
                answers.add(x.count(3));
                break;
            case 12:
                for (int i = 0; i < 144; i++) {
                    answers.add(x.akin(i / 12, i % 12) ? 1 : 0);
                }
                break;
            case 13:
                for (int i = 0; i < 144; i++) {
                    answers.add(x.share(i / 12, i % 12, 29));
                }
                break;
            default:
                answers.add(x.person(3, 3));
                answers.add(x.field(3, 3, 3, 3, 3));
                answers.add(x.transfer(1, 9) ? 1 : 0);
                answers.add(x.sell(1, 9));
                answers.add(x.feed(0x65, 0x66, 0x67, 0x68, 0x69));
                answers.add(x.day(x.count(0) + 1) ? 1 : 0);
                countsAndHouses(x, answers);
        }
    }

    // ---- what is told before

    /** As many persons, the i-th of house i % 20 with the home i. */
    private static LandReform withPersons(int persons) {
        LandReform x = new LandReform();
        tellPersons(x, persons);
        return x;
    }

    private static void tellPersons(LandReform x, int persons) {
        for (int i = 0; i < persons; i++) {
            x.person(i % 20, i);
        }
    }

    private static LandReform withHomes(int... homes) {
        LandReform x = new LandReform();
        for (int i = 0; i < homes.length; i++) {
            x.person(i % 20, homes[i]);
        }
        return x;
    }

    /** A field of area 10 at each place, the i-th one owned by the person i. */
    private static void tellPlaces(LandReform x, int... places) {
        for (int i = 0; i < places.length; i++) {
            x.field(places[i], 10, 0, 0, i);
        }
    }

    /** One person, of house 0, with fields of these areas, all of soil 0 and crop 0. */
    private static LandReform withAreas(int... areas) {
        LandReform x = withPersons(1);
        for (int area : areas) {
            x.field(0, area, 0, 0, 0);
        }
        return x;
    }

    private static void feedText(LandReform x, String text) {
        byte[] bytes = text.getBytes(StandardCharsets.ISO_8859_1);
        int[] n = new int[(bytes.length + 19) / 20 * 5];
        for (int i = 0; i < n.length * 4; i++) {
            n[i / 4] = n[i / 4] << 8 | (i < bytes.length ? bytes[i] & 255 : 32);
        }
        for (int i = 0; i < n.length; i += 5) {
            x.feed(n[i], n[i + 1], n[i + 2], n[i + 3], n[i + 4]);
        }
    }

    private static int act(LandReform x, String text) {
        feedText(x, text);
        return x.act(text.length());
    }

    private static void dueGood(String text, int statements) {
        LandReform x = new LandReform();
        due("[" + text + "]", act(x, text), statements);
        due("fault of [" + text + "]", x.fault(), NONE);
    }

    private static void dueFault(String text, int place) {
        LandReform x = new LandReform();
        due("[" + text + "]", act(x, text), NONE);
        due("fault of [" + text + "]", x.fault(), place);
    }

    /** Some of everything: an act in force, a fault behind it, a text on the tape, gifts, shares, sales. */
    private static void tellVillage(LandReform x) {
        for (int i = 0; i < 10; i++) {
            x.person(i % 4, i * 9);
        }
        x.akin(0, 5);
        x.akin(1, 2);
        for (int i = 0; i < 12; i++) {
            x.field(i * 37 % 100, 10 + i * 5, i % 4, i % 10, i % 10);
        }
        x.day(3);
        x.transfer(0, 1);
        x.transfer(3, 7);
        act(x, "ceiling 70; family 4; day 3; exempt 2; soil 1 is 8; price 3; years 4; shares 1;");
        act(x, "day x;");
        x.day(6);
        x.transfer(0, 5);
        x.transfer(4, 2);
        x.share(0, 2, 1);
        x.share(0, 2, 4);
        x.share(1, 3, 0);
        x.share(5, 6, 2);
        x.sell(0, 3);
        x.sell(4, 1);
        x.year(0, true);
        x.year(0, false);
        feedText(x, "ceiling 31; price 7; exempt 4;");
    }

    private static void tellTransfers(LandReform x, int transfers) {
        tellVillage(x);
        for (int i = x.count(3); i < transfers; i++) {
            x.transfer(11, i % 2 == 0 ? 2 : 3);
        }
    }

    // ---- what the document is and its terms

    private static void manyCalls() {
        sentence(TERMS, "An object is used for at most 512 calls after it has been made");
        LandReform x = withPersons(2);
        x.field(0, 1, 0, 0, 0);
        for (int i = 0; i < 508; i++) {
            x.transfer(0, 1 - i % 2);
        }
        due("the 512th call", x.told(0, 9), 200);
    }

    private static void constants() {
        sentence(TERMS, "The constants: `NONE = -1`: There is none.");
        due("NONE", LandReform.NONE, -1);
    }

    private static void persons() {
        sentence(TERMS, "PERSONS, up to 40, numbered as they come: a HOUSE 0 to 19, a home 0 to 99.");
        LandReform x = new LandReform();
        for (int i = 0; i < 40; i++) {
            due("person " + i, x.person(i % 20, i), i);
        }
        due("the 41st", x.person(0, 0), NONE);
        due("persons", x.count(1), 40);
        LandReform y = new LandReform();
        for (int bad : outside(0, 19)) {
            due("house " + bad, y.person(bad, 0), NONE);
        }
        for (int bad : outside(0, 99)) {
            due("home " + bad, y.person(0, bad), NONE);
        }
        due("the least", y.person(0, 0), 0);
        due("the greatest", y.person(19, 99), 1);
        y.field(0, 1, 0, 0, 0);
        due("of house 0", y.house(0, 0), 1);
        due("of house 19", y.house(19, 0), 1);
        due("the least home", y.given(0, 0, 1, NONE), 0);
        due("the greatest home", y.given(0, 1, 1, NONE), 99);
    }

    private static void fields() {
        sentence(TERMS, "FIELDS, up to 60: a place 0 to 99, AREA 1 to 100, SOIL 0 to 3, CROP 0 to 9, an owner.");
        LandReform x = withPersons(3);
        for (int i = 0; i < 60; i++) {
            due("field " + i, x.field(i, i + 1, i % 4, i % 10, i % 3), i);
        }
        due("the 61st", x.field(0, 1, 0, 0, 0), NONE);
        due("fields", x.count(2), 60);
        int[] last = {59, 60, 3, 9, 2};
        for (int i = 0; i < 5; i++) {
            due("of the last " + i, x.told(59, i), last[i]);
        }
        LandReform y = withPersons(2);
        int[] least = {0, 1, 0, 0, 0};
        int[] greatest = {99, 100, 3, 9, 1};
        for (int i = 0; i < 5; i++) {
            for (int bad : outside(least[i], greatest[i])) {
                int[] f = least.clone();
                f[i] = bad;
                due("value " + i + " is " + bad, y.field(f[0], f[1], f[2], f[3], f[4]), NONE);
            }
        }
        due("the least", y.field(0, 1, 0, 0, 0), 0);
        due("the greatest", y.field(99, 100, 3, 9, 1), 1);
        for (int i = 0; i < 5; i++) {
            due("of the least " + i, y.told(0, i), least[i]);
            due("of the greatest " + i, y.told(1, i), greatest[i]);
        }
    }

    private static void days() {
        sentence(TERMS, "DAYS 0 to 1,000, TODAY is 0 at first.");
        LandReform x = withPersons(2);
        x.field(0, 1, 0, 0, 0);
        due("today at first", x.count(0), 0);
        due("no transfer yet", x.owned(0, 0), 0);
        x.transfer(0, 1);
        due("as day 0 ended", x.owned(0, 0), 1);
        due("1000", x.day(1000), true);
        due("1001", x.day(1001), false);
        due("today", x.count(0), 1000);
        x.transfer(0, 0);
        due("as day 999 ended", x.owned(0, 999), 1);
        due("as day 1000 ended", x.owned(0, 1000), 0);
    }

    private static void transfers() {
        sentence(TERMS, "A TRANSFER of a FIELD to another person is on TODAY; up to 200 in all.");
        LandReform x = withPersons(3);
        x.field(0, 1, 0, 0, 0);
        x.field(0, 1, 0, 0, 1);
        x.day(8);
        due("to the owner", x.transfer(0, 0), false);
        due("to another", x.transfer(0, 1), true);
        due("the day before", x.owned(0, 7), 0);
        due("today", x.owned(0, 8), 1);
        for (int i = 1; i < 200; i++) {
            due("transfer " + i, x.transfer(i % 2, i % 4 < 2 ? 2 : 0), true);
        }
        due("the 201st", x.transfer(0, 1), false);
        due("transfers", x.count(3), 200);
        due("of one and the other", x.told(0, 9) + x.told(1, 9), 200);
    }

    private static void actText() {
        sentence(TERMS, "THE ACT is a text: {\"ceiling\" NUMBER \";\" | \"family\" NUMBER \";\" | \"day\" NUMBER \";\""
                + " | \"exempt\" NUMBER \";\" | \"soil\" NUMBER \"is\" NUMBER \";\" | \"price\" NUMBER \";\""
                + " | \"years\" NUMBER \";\" | \"shares\" NUMBER \";\"}.");
        dueGood("", 0);
        String[] kinds = {"ceiling", "family", "day", "exempt", "price", "years", "shares"};
        for (String kind : kinds) {
            dueGood(kind + " 7;", 1);
            dueGood(kind + " 7;" + kind + " 8;", 2);
            dueFault(kind.substring(1) + " 7;", 0);
            dueFault(kind.substring(0, kind.length() - 1) + " 7;", 0);
            dueFault(kind + "s 7;", 0);
            dueFault(kind + ";", kind.length());
            dueFault(kind + " 7 is 8;", kind.length() + 3);
            dueFault(kind + " 7 " + kind + " 7;", kind.length() + 3);
        }
        dueGood("soil 1 is 7;", 1);
        dueFault("soil 1 7;", 7);
        dueFault("soil 1;", 6);
        dueFault("soil is 7;", 5);
        dueFault("soil 1 is is 7;", 10);
        dueFault("soil 1 is;", 9);
        dueFault("soil 1 i 7;", 7);
        dueFault("soil 1 it 7;", 7);
        dueFault("soil;", 4);
        dueFault("is 7;", 0);
        dueFault("7;", 0);
        dueFault(";", 0);
        dueFault("day 7;;", 6);
        dueFault("share 7;", 0);
        dueFault("year 7;", 0);
    }

    private static void actNumbers() {
        sentence(TERMS, "NUMBER: one to four digits;");
        LandReform x = withPersons(1);
        String[] good = {"0", "9", "0000", "0009", "9999", "1000", "010"};
        int[] worth = {0, 9, 0, 9, 9999, 1000, 10};
        for (int i = 0; i < good.length; i++) {
            due("ceiling " + good[i], act(x, "ceiling " + good[i] + ";"), 1);
            due("may have", x.house(0, 2), worth[i]);
        }
        String[] bad = {"", "10000", "00000", "00001", "4294967296", "4294967297", "99999999999999999999"};
        for (String number : bad) {
            dueFault("ceiling " + number + ";", 8);
            dueFault("soil 0 is " + number + ";", 10);
        }
    }

    private static void soilNumbers() {
        sentence(TERMS, "of \"soil\" the first 0 to 3;");
        for (int soil = 0; soil < 4; soil++) {
            dueGood("soil " + soil + " is 5;", 1);
        }
        dueGood("soil 0003 is 9999;", 1);
        String[] soils = {"4", "9", "10", "13", "256", "0004", "9999", "00003", "-1"};
        for (String soil : soils) {
            dueFault("soil " + soil + " is 5;", 5);
        }
    }

    private static void yearsNumbers() {
        sentence(TERMS, "\"years\" 1 to 40.");
        dueGood("years 1;", 1);
        dueGood("years 40;", 1);
        dueGood("years 0040;", 1);
        String[] years = {"0", "00", "0000", "41", "400", "257", "9999", "00040"};
        for (String number : years) {
            dueFault("years " + number + ";", 6);
        }
        dueGood("shares 0; price 0; family 0; day 0; exempt 0; soil 0 is 0; ceiling 0;", 7);
        dueGood("shares 41; price 41; family 41; day 41; exempt 41; soil 3 is 41; ceiling 41;", 7);
    }

    private static void actTokens() {
        sentence(TERMS, "Tokens as long as they go: words of letters a to z, digits, \";\";");
        dueGood("ceiling5;family5;soil0is5;day5;", 4);
        dueFault("ceilingceiling 5;", 0);
        dueFault("dayx 5;", 0);
        dueFault("daya 5;", 0);
        dueFault("dayz 5;", 0);
        dueFault("xday 5;", 0);
        dueFault("soil3isx5;", 5);
        dueFault("soil3is5is5;", 8);
        dueFault("day 12 34;", 7);
        dueFault("day 1234 5;", 9);
        dueFault("day 5x;", 5);
        dueFault("5day 5;", 0);
        dueFault("Day 5;", 0);
        dueFault("daY 5;", 0);
        dueFault("day Y;", 4);
        // Next to a, z, 0 and 9: these begin no token and end the one before.
        int[] signs = {'a' - 1, 'z' + 1, '0' - 1, '9' + 1, ';' + 1, ',', 0, 127, 128, 255};
        for (int sign : signs) {
            dueFault((char) sign + "day 5;", 0);
            dueFault("day" + (char) sign + "5;", 3);
            dueFault("day 5" + (char) sign + ";", 5);
            dueFault("day 5;" + (char) sign, 6);
        }
    }

    private static void actBlanks() {
        sentence(TERMS, "between them blanks (bytes 32 and 10).");
        dueGood("day 5;", 1);
        dueGood("day\n5;", 1);
        dueGood("day \n \n 5 \n;\n soil\n2\nis\n5\n;", 2);
        dueGood("day5;", 1);
        dueFault("d ay 5;", 0);
        dueFault("day 5 5;", 6);
        int[] signs = {0, 8, 9, 11, 12, 13, 31, 33, 138, 160};
        for (int sign : signs) {
            dueFault("day" + (char) sign + "5;", 3);
            dueFault("day 5;" + (char) sign + "day 5;", 6);
        }
    }

    private static void actStatements() {
        sentence(TERMS, "At most 16 statements.");
        dueGood("day 5;".repeat(16), 16);
        dueGood("soil 3 is 9999;\n".repeat(16), 16);
        dueGood("day 5;".repeat(16) + " \n ", 16);
        dueFault("day 5;".repeat(17), 96);
        LandReform x = new LandReform();
        due("sixteen", act(x, "day 5;".repeat(16)), 16);
        due("statements", x.count(4), 16);
        due("seventeen", act(x, "price 5;".repeat(17)), NONE);
        due("statements", x.count(4), 16);
    }

    private static void faultOfTheSeventeenth() {
        sentence(TERMS, "the 17th statement: where it begins.");
        dueFault("day 5;".repeat(16) + " \nday 5;", 98);
        dueFault("day 5;".repeat(16) + "day", 96);
        dueFault("day 5;".repeat(16) + "day 5 5;", 96);
        dueFault("day 5;".repeat(16) + "soil 9 is 5;", 96);
        dueFault("day 5;".repeat(16) + "  ;", 98);
        dueFault("day 5;".repeat(20), 96);
        dueFault("soil 3 is 9999;".repeat(16) + "price 1;", 240);
        dueFault("day 5;".repeat(15) + "day 5 5; day 5;", 96);
        dueFault("day 5;".repeat(15) + "day 5", 95);
    }

    private static void faultPlaces() {
        sentence(TERMS, "FAULT: the place of the first byte of the first token (or byte that begins none) with which no"
                + " such text goes on (a number beyond its bounds, too);");
        dueFault("x", 0);
        dueFault("  \n x", 4);
        dueFault("day   five;", 6);
        dueFault("day 5;  soil 1 is 5  5;", 21);
        dueFault("day 5; dai 5; dai 5;", 7);
        dueFault("day 5; day 12345;", 11);
        dueFault("day 5; years 41", 13);
        dueFault("day 5; soil 4", 12);
        dueFault("day 5, day;", 5);
        dueFault("#", 0);
        dueFault("day #", 4);
        dueFault(" ".repeat(399) + "#", 399);
    }

    private static void faultWhereMoreMustCome() {
        sentence(TERMS, "the text's length, if more must come;");
        String[] more = {
            "day", "day ", "day 5", "day 5 \n", "soil", "soil 1", "soil 1 ", "soil 1 is", "soil 1 is\n", "soil 1 is 5",
            "day 5; years", "day 5; years 4", "day 5;ceiling 9999", " ".repeat(393) + "ceiling"};
        for (String text : more) {
            dueFault(text, text.length());
        }
        LandReform x = new LandReform();
        feedText(x, "ceiling 55;");
        due("cut within a number", x.act(9), NONE);
        due("its length", x.fault(), 9);
        feedText(x, "ceiling 55;");
        due("cut within a word", x.act(6), NONE);
        due("another word", x.fault(), 0);
        feedText(x, "years 41;");
        due("cut to within its bounds", x.act(7), NONE);
        due("its length", x.fault(), 7);
    }

    private static void actInForce() {
        sentence(TERMS, "In force from then on, in place of what was (the last of each;");
        LandReform x = withPersons(6);
        for (int i = 0; i < 6; i++) {
            x.person(0, 0);
        }
        x.field(0, 10, 1, 0, 0);
        x.field(0, 10, 2, 9, 0);
        due("act", act(x, "ceiling 1; family 2; soil 1 is 30; price 5; years 7; family 3; ceiling 8; soil 2 is 40;"), 8);
        due("the last ceiling and family", x.house(0, 2), 8 + 2 * 3);
        due("soil 1", x.told(0, 5), 30);
        due("soil 2", x.told(1, 5), 40);
        due("in place", act(x, "soil 1 is 20; soil 1 is 50; price 1; price 3; years 9; years 2; soil 1 is 70;"), 7);
        due("the ceiling of before is gone", x.house(0, 2), 100);
        due("the last of soil 1", x.told(0, 5), 70);
        due("soil 2 of before is gone", x.told(1, 5), 10);
        due("the last price", x.sale(x.sell(0, 0), 2), 210);
        due("the last years", x.sale(0, 4), 2);
    }

    private static void exemptEach() {
        LandReform x = withPersons(1);
        x.field(0, 10, 0, 0, 0);
        x.field(0, 10, 0, 9, 0);
        sentence(TERMS, "of \"exempt\" each).");
        due("act", act(x, "exempt 0; exempt 9; exempt 0;"), 3);
        due("crop 0", x.told(0, 8), 1);
        due("crop 9", x.told(1, 8), 1);
        due("act", act(x, "exempt 9;"), 1);
        due("crop 0 no more", x.told(0, 8), 0);
        due("crop 9", x.told(1, 8), 1);
        due("act", act(x, "exempt 10; exempt 32; exempt 41; exempt 265; exempt 9999;"), 5);
        due("no such crops", x.told(0, 8) + x.told(1, 8), 0);
    }

    private static void actDefaults() {
        sentence(TERMS, "Else: CEILING 100, FAMILY 0, DAY 1,000, no CROP exempt, SOIL s is 10, PRICE 1, YEARS 10, SHARES 2.");
        dueDefaults(new LandReform());
        for (int empty = 1; empty < 4; empty++) {
            LandReform x = new LandReform();
            act(x, "ceiling 1; family 2; day 3; exempt 0; exempt 1; exempt 2; exempt 9; soil 0 is 5; soil 1 is 5;"
                    + "soil 2 is 5; soil 3 is 5; price 6; years 7; shares 8;");
            for (int i = 0; i < empty; i++) {
                due("an empty text", act(x, ""), 0);
            }
            dueDefaults(x);
        }
    }

    private static void dueDefaults(LandReform x) {
        for (int i = 0; i < 6; i++) {
            x.person(0, 0);
        }
        x.person(1, 0);
        x.akin(0, 6);
        due("ceiling, family", x.house(0, 2), 100);
        for (int i = 0; i < 10; i++) {
            x.field(0, 77, i % 4, i, 0);
            due("crop " + i, x.told(i, 8), 0);
            due("soil " + i % 4, x.told(i, 5), 77);
        }
        x.day(1000);
        x.transfer(0, 6);
        due("day", x.told(0, 6), 6);
        due("price", x.sale(x.sell(0, 0), 2), 77);
        due("years", x.sale(0, 4), 10);
        x.share(1, 3, 0);
        due("one year", x.told(1, 7), NONE);
        x.share(1, 3, 1);
        due("two years", x.told(1, 7), 3);
    }

    private static void standards() {
        sentence(TERMS, "STANDARD of a FIELD: AREA by what its SOIL is, by 10, cut.");
        int[] areas = {1, 1, 1, 1, 1, 3, 100, 100, 7, 9};
        int[] soils = {0, 9, 10, 19, 20, 33, 9999, 0, 11, 11};
        int[] standards = {0, 0, 1, 1, 2, 9, 99990, 0, 7, 9};
        for (int i = 0; i < areas.length; i++) {
            LandReform x = withAreas(areas[i]);
            act(x, "soil 0 is " + soils[i] + ";");
            due(areas[i] + " by " + soils[i], x.told(0, 5), standards[i]);
            due("holding", x.house(0, 1), standards[i]);
        }
        LandReform y = withAreas(1, 1, 1);
        act(y, "soil 0 is 9;");
        due("each one is cut", y.house(0, 1), 0);
    }

    // ---- the second part: what counts, what is kept, who tills

    /** Persons 0 and 1 of house 0, 2 of house 1 and akin to 0, 3 of house 2 and akin to 2, 4 of house 3. */
    private static LandReform kinsfolk(String act) {
        LandReform x = new LandReform();
        int[] houses = {0, 0, 1, 2, 3};
        for (int house : houses) {
            x.person(house, 0);
        }
        x.akin(0, 2);
        x.akin(3, 2);
        for (int i = 0; i < 8; i++) {
            x.field(0, 10, 0, 0, 0);
        }
        act(x, act);
        return x;
    }

    private static void countedAsTheDayEnded() {
        sentence(TERMS, "COUNTED owner of a FIELD: whoever owned it as THE ACT's DAY ended;");
        LandReform x = kinsfolk("day 10;");
        due("without a transfer", x.told(0, 6), 0);
        x.day(9);
        x.transfer(1, 2);
        x.day(10);
        x.transfer(2, 2);
        x.transfer(3, 4);
        x.transfer(3, 1);
        x.day(11);
        x.transfer(4, 2);
        due("a gift the day before", x.told(1, 6), 2);
        due("a gift on that day", x.told(2, 6), 2);
        due("the last of that day", x.told(3, 6), 1);
        due("a gift the day after", x.told(4, 6), 0);
        act(x, "day 9;");
        due("a day earlier: behind it now", x.told(2, 6), 0);
        act(x, "day 11;");
        due("a day later: before it now", x.told(4, 6), 2);
        LandReform y = kinsfolk("day 0;");
        y.transfer(0, 2);
        due("a gift on day 0", y.told(0, 6), 2);
        y.day(1);
        y.transfer(1, 2);
        due("a gift on day 1", y.told(1, 6), 0);
        y.day(1000);
        y.transfer(2, 2);
        due("a gift on day 1000", y.told(2, 6), 0);
        act(y, "day 999;");
        due("behind day 999", y.told(2, 6), 0);
        act(y, "day 1000;");
        due("as day 1000 ended", y.told(2, 6), 2);
        act(y, "day 9999;");
        due("as day 9999 ended", y.told(2, 6), 2);
    }

    private static void countedBehindTheDay() {
        sentence(TERMS, "of each TRANSFER behind that, in order: if the one to whom it went is of the HOUSE of the COUNTED"
                + " owner, or akin (told), it stays;");
        LandReform x = kinsfolk("day 0;");
        x.day(1);
        x.transfer(0, 1);
        due("to the house", x.told(0, 6), 0);
        x.transfer(1, 2);
        due("to kin", x.told(1, 6), 0);
        x.transfer(1, 1);
        due("from kin to the house", x.told(1, 6), 0);
        x.transfer(1, 0);
        due("and home", x.told(1, 6), 0);
        due("the owner now", x.told(0, 4), 1);
        x.transfer(4, 3);
        x.transfer(4, 2);
        due("kin told the other way round", x.told(4, 6), 3);
    }

    private static void countedToAnother() {
        LandReform x = kinsfolk("day 0;");
        x.day(1);
        sentence(TERMS, "else it's the new one's.");
        x.transfer(2, 4);
        due("to another", x.told(2, 6), 4);
        x.transfer(2, 0);
        due("and back", x.told(2, 6), 0);
        x.transfer(3, 2);
        x.transfer(3, 3);
        due("from kin to kin of kin", x.told(3, 6), 3);
        x.transfer(5, 1);
        x.transfer(5, 2);
        due("from the house to whom only the first is akin", x.told(5, 6), 0);
        x.transfer(6, 4);
        x.transfer(6, 1);
        x.transfer(6, 2);
        due("to whom the new one isn't akin", x.told(6, 6), 2);
        due("never moved", x.told(7, 6), 0);
    }

    private static void holding() {
        sentence(TERMS, "HOLDING of a HOUSE: STANDARDS of FIELDS whose COUNTED owner is of it, but those of exempt CROPS.");
        LandReform x = kinsfolk("day 0; exempt 9; soil 1 is 15;");
        x.field(0, 5, 0, 9, 0);
        x.field(0, 7, 1, 8, 1);
        due("all of the house", x.house(0, 1), 80 + 10);
        due("fields", x.house(0, 4), 9);
        due("a house with nothing", x.house(1, 1), 0);
        x.day(1);
        x.transfer(0, 2);
        due("a gift still counts", x.house(0, 1), 90);
        due("not where it went", x.house(1, 1), 0);
        x.transfer(1, 4);
        due("a sale doesn't", x.house(0, 1), 80);
        due("but where it went", x.house(3, 1), 10);
        act(x, "exempt 0; day 0;");
        due("the others exempt", x.house(0, 1), 5 + 7);
        due("fields", x.house(0, 4), 2);
        due("all exempt", x.house(3, 1), 0);
        due("no field", x.house(3, 4), 0);
        LandReform most = withPersons(1);
        for (int i = 0; i < 60; i++) {
            most.field(0, 100, 0, 0, 0);
        }
        act(most, "soil 0 is 9999;");
        due("the most", most.house(0, 1), 60 * 99990);
        due("above", most.house(0, 3), 60 * 99990 - 100);
    }

    private static void mayHave() {
        sentence(TERMS, "It may have CEILING, and FAMILY for each person of it above 5.");
        LandReform x = new LandReform();
        act(x, "ceiling 9; family 30;");
        int[] mayHave = {9, 9, 9, 9, 9, 9, 39, 69};
        for (int i = 0; i < 8; i++) {
            due("persons " + i, x.house(7, 2), mayHave[i]);
            x.person(7, 0);
        }
        due("another house", x.house(8, 2), 9);
        act(x, "ceiling 9999; family 9999;");
        for (int i = 8; i < 40; i++) {
            x.person(7, 0);
        }
        due("the most", x.house(7, 2), 9999 * 36);
    }

    private static void aboveByHowMuch() {
        sentence(TERMS, "ABOVE: by how much HOLDING is more.");
        LandReform y = withAreas(60, 40);
        int[] ceilings = {0, 99, 100, 101, 9999};
        int[] above = {100, 1, 0, 0, 0};
        for (int i = 0; i < 5; i++) {
            act(y, "ceiling " + ceilings[i] + ";");
            due("ceiling " + ceilings[i], y.house(0, 3), above[i]);
        }
        due("a house with nothing", y.house(1, 3), 0);
    }

    private static void dueKept(LandReform x, int sum, int... kept) {
        due("kept", x.kept(0, NONE), sum);
        for (int i = 0; i < kept.length; i++) {
            due("kept " + i, x.kept(0, i), kept[i]);
        }
        due("kept beyond", x.kept(0, kept.length), NONE);
    }

    private static void keptSets() {
        sentence(TERMS, "KEPT by a HOUSE with at most 12 such FIELDS: of all sets of these whose STANDARDS are together at"
                + " most what it may have the one of the greatest sum of AREAS;");
        LandReform x = withAreas(10, 10, 10, 10, 10, 10, 10, 10, 10, 10, 10, 10);
        act(x, "ceiling 120;");
        dueKept(x, 120, 1, 1, 1, 1, 1, 1, 1, 1, 1, 1, 1, 1);
        act(x, "ceiling 119;");
        dueKept(x, 110, 1, 1, 1, 1, 1, 1, 1, 1, 1, 1, 1, 0);
        x.field(0, 1, 0, 5, 0);
        due("thirteen", x.kept(0, NONE), NONE);
        due("thirteen", x.kept(0, 0), NONE);
        due("thirteen", x.taken(0, 0), NONE);
        act(x, "exempt 5; ceiling 10;");
        dueKept(x, 10, 1, 0, 0, 0, 0, 0, 0, 0, 0, 0, 0, 0);
        LandReform y = withAreas(60, 40);
        dueKept(y, 100, 1, 1);
        act(y, "ceiling 99;");
        dueKept(y, 60, 1, 0);
        act(y, "ceiling 60;");
        dueKept(y, 60, 1, 0);
        act(y, "ceiling 59;");
        dueKept(y, 40, 0, 1);
        act(y, "ceiling 39;");
        dueKept(y, 0, 0, 0);
        act(y, "ceiling 0; soil 0 is 0;");
        dueKept(y, 100, 1, 1);
        LandReform z = withAreas(50, 50);
        z.field(0, 90, 1, 0, 0);
        act(z, "ceiling 95; soil 1 is 5;");
        dueKept(z, 140, 1, 0, 1);
        act(z, "ceiling 94; soil 1 is 5;");
        dueKept(z, 90, 0, 0, 1);
        act(z, "ceiling 100; soil 1 is 11;");
        dueKept(z, 100, 1, 1, 0);
        LandReform w = withAreas();
        dueKept(w, 0);
    }

    private static void keptOfSeveral() {
        sentence(TERMS, "of several the least as a number (2 to the places in their order, added).");
        int[][] areas = {{50, 50, 50}, {30, 20, 50}, {50, 30, 20}, {20, 50, 30}, {20, 30, 30, 20}, {10, 40, 40, 10}};
        int[][] kept = {{1, 0, 0}, {1, 1, 0}, {1, 0, 0}, {0, 1, 0}, {1, 1, 0, 0}, {1, 1, 0, 0}};
        for (int i = 0; i < areas.length; i++) {
            LandReform x = withAreas(areas[i]);
            act(x, "ceiling 50;");
            dueKept(x, 50, kept[i]);
        }
        LandReform last = withAreas(1, 1, 1, 1, 1, 1, 1, 1, 1, 1, 10, 10);
        act(last, "ceiling 10;");
        dueKept(last, 10, 1, 1, 1, 1, 1, 1, 1, 1, 1, 1, 0, 0);
        act(last, "ceiling 11;");
        dueKept(last, 11, 1, 0, 0, 0, 0, 0, 0, 0, 0, 0, 1, 0);
        LandReform unlike = withPersons(1);
        unlike.field(0, 30, 0, 0, 0);
        unlike.field(0, 30, 1, 0, 0);
        act(unlike, "ceiling 30; soil 1 is 1;");
        dueKept(unlike, 30, 1, 0);
    }

    private static void takenIfAbove() {
        sentence(TERMS, "TAKEN: the others, if it's ABOVE; nothing, if not.");
        LandReform x = withAreas(30, 20, 50);
        act(x, "ceiling 99;");
        due("above by one: the first", x.taken(0, 0), 1);
        due("above by one: no second", x.taken(0, 1), NONE);
        act(x, "ceiling 100;");
        due("as much as it may have", x.taken(0, 0), NONE);
        act(x, "ceiling 101;");
        due("less than it may have", x.taken(0, 0), NONE);
        act(x, "ceiling 19;");
        for (int i = 0; i < 3; i++) {
            due("all", x.taken(0, i), i);
        }
        due("no fourth", x.taken(0, 3), NONE);
        act(x, "ceiling 0; exempt 0;");
        due("nothing counts", x.taken(0, 0), NONE);
    }

    private static void tenants() {
        sentence(TERMS, "TENANT of a FIELD: of persons of whom SHARES were told for it in at least as many different years"
                + " as SHARES tells, other than the owner, the one of most years;");
        LandReform x = withPersons(4);
        x.field(0, 1, 0, 0, 0);
        x.field(0, 1, 0, 0, 0);
        act(x, "shares 3;");
        due("none told", x.told(0, 7), NONE);
        x.share(0, 1, 0);
        x.share(0, 1, 29);
        due("two years", x.told(0, 7), NONE);
        x.share(0, 1, 29);
        due("a year told twice", x.told(0, 7), NONE);
        x.share(0, 1, 15);
        due("three years", x.told(0, 7), 1);
        due("of the other field", x.told(1, 7), NONE);
        x.share(1, 3, 0);
        act(x, "shares 1;");
        due("one year of one", x.told(1, 7), 3);
        act(x, "shares 0;");
        due("one year of none", x.told(1, 7), 3);
        act(x, "shares 2;");
        due("one year of two", x.told(1, 7), NONE);
        for (int i = 0; i < 30; i++) {
            x.share(0, 0, i);
            x.share(0, 2, i);
        }
        due("the one of most, not the owner", x.told(0, 7), 2);
        act(x, "shares 30;");
        due("thirty", x.told(0, 7), 2);
        act(x, "shares 31;");
        due("thirty-one", x.told(0, 7), NONE);
        act(x, "shares 9999;");
        due("very many", x.told(0, 7), NONE);
        act(x, "shares 0;");
        due("none asked", x.told(0, 7), 2);
        x.transfer(0, 2);
        due("the owner of before, as the tenant owns it", x.told(0, 7), 0);
        x.transfer(0, 3);
        due("two of thirty years", x.told(0, 7), NONE);
    }

    private static void tenantsOfAsManyYears() {
        sentence(TERMS, "none, if two have as many.");
        LandReform y = withPersons(4);
        y.field(0, 1, 0, 0, 0);
        int[][] told = {{1, 0}, {1, 1}, {2, 2}, {2, 3}, {3, 0}, {3, 1}, {3, 5}};
        int[] tenant = {NONE, 1, 1, NONE, NONE, NONE, 3};
        for (int i = 0; i < told.length; i++) {
            y.share(0, told[i][0], told[i][1]);
            due("share " + i, y.told(0, 7), tenant[i]);
        }
        y.transfer(0, 1);
        y.share(0, 2, 4);
        due("two of three years", y.told(0, 7), NONE);
        y.transfer(0, 3);
        due("one of the two owns it", y.told(0, 7), 2);
    }

    // ---- the third part: who is given what, rings, sales

    private static void givenWays() {
        sentence(TERMS, "GIVEN: FIELDS from one on, m (1 to 5), to as many persons from one on, one each: of all ways that of"
                + " the least sum of how far homes and places are apart;");
        LandReform x = withHomes(0, 10, 20, 30, 40, 50, 99);
        for (int place : new int[] {99, 41, 31, 21, 11, 1, 0}) {
            x.field(place, 1, 0, 0, 0);
        }
        due("five", x.given(1, 0, 5, NONE), 5);
        for (int i = 0; i < 5; i++) {
            due("five, " + i, x.given(1, 0, 5, i), 4 - i);
        }
        due("one", x.given(0, 0, 1, NONE), 99);
        due("one", x.given(0, 0, 1, 0), 0);
        due("one, the last of all", x.given(6, 6, 1, NONE), 99);
        due("one, the last of all", x.given(6, 6, 1, 0), 6);
        due("the last five", x.given(2, 2, 5, NONE), 20 + 29 + 29 + 29 + 68);
        for (int bad : new int[] {0, 6, 7, -1, LOW, HIGH, 257}) {
            due("m " + bad, x.given(0, 0, bad, NONE), NONE);
            due("m " + bad, x.given(0, 0, bad, 0), NONE);
        }
        // Whoever is nearest to the first field would leave the second with a long way.
        LandReform y = withHomes(50, 0);
        y.field(40, 1, 0, 0, 0);
        y.field(90, 1, 0, 0, 0);
        due("the nearest gives way", y.given(0, 0, 2, 0), 1);
        due("the sum", y.given(0, 0, 2, NONE), 80);
    }

    private static void givenOfSeveral() {
        sentence(TERMS, "of several the first (the FIELD's person for the first FIELD least, then the next).");
        LandReform z = withHomes(5, 5, 5, 5, 5);
        for (int i = 0; i < 5; i++) {
            z.field(7, 1, 0, 0, 0);
        }
        for (int i = 0; i < 5; i++) {
            due("all alike, " + i, z.given(0, 0, 5, i), i);
        }
        LandReform w = withHomes(90, 0, 10);
        w.field(90, 1, 0, 0, 0);
        w.field(20, 1, 0, 0, 0);
        w.field(30, 1, 0, 0, 0);
        due("the sum", w.given(0, 0, 3, NONE), 0 + 20 + 20);
        due("the first alone", w.given(0, 0, 3, 0), 0);
        due("of the next the least", w.given(0, 0, 3, 1), 1);
        due("the last", w.given(0, 0, 3, 2), 2);
    }

    private static void ringsOfHowMany() {
        sentence(TERMS, "RINGS of m (2 to 8) persons from one on, each with the first FIELD owned (by numbers;");
        LandReform x = withHomes(10, 20, 30, 40, 50, 60, 70, 80, 90);
        tellPlaces(x, 20, 30, 40, 50, 60, 70, 80, 10, 90);
        due("eight, in one ring", x.rings(0, 8, NONE), 1);
        for (int i = 0; i < 8; i++) {
            due("eight, " + i, x.rings(0, 8, i), (i + 7) % 8);
        }
        due("two", x.rings(7, 2, NONE), 2);
        due("the last eight", x.rings(1, 8, NONE), 8);
        for (int bad : new int[] {1, 0, 9, -1, LOW, HIGH, 258}) {
            due("m " + bad, x.rings(0, bad, NONE), NONE);
            due("m " + bad, x.rings(0, bad, 0), NONE);
            due("m " + bad, x.swap(0, bad), NONE);
        }
        LandReform y = withHomes(10, 20);
        y.field(90, 1, 0, 0, 1);
        y.field(95, 1, 0, 0, 0);
        y.field(10, 1, 0, 0, 0);
        y.field(20, 1, 0, 0, 1);
        due("the first alone is in it", y.rings(0, 2, 0), 1);
        due("the first alone is in it", y.rings(0, 2, 1), 0);
        y.transfer(0, 0);
        due("the first owned now", y.rings(0, 2, 0), 0);
        due("the first owned now", y.rings(0, 2, 1), 3);
    }

    private static void ringsWanted() {
        sentence(TERMS, "all must have one): each wants of the FIELDS still there the one nearest to home, of several the"
                + " least;");
        LandReform x = withHomes(10, 20, 30);
        x.field(20, 1, 0, 0, 0);
        x.field(10, 1, 0, 0, 1);
        due("two with fields", x.rings(0, 2, NONE), 1);
        due("the third has none", x.rings(0, 3, NONE), NONE);
        due("the third has none", x.rings(1, 2, NONE), NONE);
        due("the third has none", x.swap(0, 3), NONE);
        x.transfer(1, 2);
        due("the second has none now", x.rings(0, 2, NONE), NONE);
        due("the third has one now", x.told(1, 4), 2);
        LandReform y = withHomes(50, 60);
        y.field(40, 1, 0, 0, 1);
        y.field(60, 1, 0, 0, 0);
        due("as near as one's own, but less", y.rings(0, 2, 0), 0);
        LandReform z = withHomes(50, 40);
        tellPlaces(z, 60, 40);
        due("as near as one's own, but greater", z.rings(0, 2, 0), 0);
        LandReform w = withHomes(0, 99);
        tellPlaces(w, 99, 0);
        due("from end to end", w.rings(0, 2, NONE), 1);
        due("from end to end", w.rings(0, 2, 0), 1);
        LandReform v = withHomes(50, 50, 50);
        tellPlaces(v, 52, 49, 51);
        due("nearest of three", v.rings(0, 3, 1), 1);
        due("as near of three", v.rings(0, 3, 2), 2);
        due("what is left", v.rings(0, 3, 0), 0);
    }

    private static void ringsLeft() {
        sentence(TERMS, "whoever has it is pointed at; those in a ring have what they want and go with it; again, till none"
                + " is left.");
        // 0 and 1 swap; 2 wants the field of 0, then its own; 3 wants that of 2 and has its own at last.
        LandReform x = withHomes(10, 20, 21, 31);
        tellPlaces(x, 20, 10, 30, 90);
        due("rings", x.rings(0, 4, NONE), 3);
        int[] got = {1, 0, 2, 3};
        for (int i = 0; i < 4; i++) {
            due("field for " + i, x.rings(0, 4, i), got[i]);
        }
        // 2 and 3 point at what 0 keeps; when it is gone they swap.
        LandReform y = withHomes(50, 0, 51, 52);
        tellPlaces(y, 50, 0, 80, 70);
        due("rings", y.rings(0, 4, NONE), 4);
        LandReform z = withHomes(50, 0, 51, 45);
        tellPlaces(z, 50, 0, 10, 90);
        due("rings", z.rings(0, 4, NONE), 3);
        due("in the second round", z.rings(0, 4, 2), 3);
        due("in the second round", z.rings(0, 4, 3), 2);
        // One leaves in each round: eight rounds.
        LandReform w = withHomes(0, 0, 0, 0, 0, 0, 0, 0);
        tellPlaces(w, 8, 7, 6, 5, 4, 3, 2, 1);
        due("eight rounds", w.rings(0, 8, NONE), 8);
        for (int i = 0; i < 8; i++) {
            due("its own", w.rings(0, 8, i), i);
        }
    }

    /** Two who would swap, with as many transfers told of a third field, which isn't the first of either. */
    private static LandReform swappers(int transfers) {
        LandReform x = withHomes(10, 20);
        tellPlaces(x, 20, 10);
        x.field(50, 1, 0, 0, 0);
        for (int i = 0; i < transfers; i++) {
            x.transfer(2, 1 - i % 2);
        }
        return x;
    }

    private static void swapped() {
        sentence(TERMS, "SWAPPED: it's done by TRANSFERS (of each FIELD that changes, the FIELDS by numbers), if there are as"
                + " many left.");
        int[] told = {0, 197, 198, 199, 200};
        int[] answers = {2, 2, 2, NONE, NONE};
        for (int i = 0; i < told.length; i++) {
            LandReform x = swappers(told[i]);
            boolean done = answers[i] == 2;
            due("with " + told[i], x.swap(0, 2), answers[i]);
            due("transfers", x.count(3), told[i] + (done ? 2 : 0));
            due("owner of 0", x.told(0, 4), done ? 1 : 0);
            due("owner of 1", x.told(1, 4), done ? 0 : 1);
            due("transfers of 0", x.told(0, 9), done ? 1 : 0);
        }
        LandReform y = withHomes(10, 20);
        tellPlaces(y, 10, 20);
        y.field(50, 1, 0, 0, 0);
        for (int i = 0; i < 200; i++) {
            y.transfer(2, 1 - i % 2);
        }
        due("none left, none changes", y.swap(0, 2), 0);
        LandReform z = withHomes(10, 20, 30);
        tellPlaces(z, 20, 10, 30);
        z.day(1000);
        due("two of three change", z.swap(0, 3), 2);
        due("that one doesn't", z.told(2, 9), 0);
        due("before today", z.owned(0, 999), 0);
        due("today", z.owned(0, 1000), 1);
        due("again", z.swap(0, 3), 0);
        due("transfers", z.count(3), 2);
        swappedByEight();
    }

    private static void swappedByEight() {
        LandReform x = withHomes(10, 20, 30, 40, 50, 60, 70, 80);
        tellPlaces(x, 20, 30, 40, 50, 60, 70, 80, 10);
        due("eight would change", x.rings(0, 8, NONE), 1);
        due("of two alone none does", x.swap(0, 2), 0);
        due("transfers", x.count(3), 0);
        due("eight change", x.swap(0, 8), 8);
        due("transfers", x.count(3), 8);
        for (int i = 0; i < 8; i++) {
            due("owner of " + i, x.told(i, 4), (i + 1) % 8);
            due("transfers of " + i, x.told(i, 9), 1);
        }
        due("again", x.swap(0, 8), 0);
    }

    private static LandReform sold(int area, String act) {
        LandReform x = withAreas(area);
        act(x, act);
        x.sell(0, 0);
        return x;
    }

    /** The years in their order: what is paid, or NONE for one that failed; all is paid then. */
    private static void dueYears(int area, String act, int... years) {
        LandReform x = sold(area, act);
        int failed = 0;
        for (int i = 0; i < years.length; i++) {
            boolean good = years[i] != NONE;
            due("year " + i, x.year(0, good), good ? years[i] : 0);
            failed += good ? 0 : 1;
        }
        due("all is paid", x.year(0, true), NONE);
        due("parts left", x.sale(0, 4), 0);
        due("paid", x.sale(0, 3), x.sale(0, 2));
        due("put off", x.sale(0, 5), failed);
    }

    private static void partsOfSales() {
        sentence(TERMS, "A BUYER of a FIELD owes PRICE times STANDARD coins in YEARS parts: all by YEARS, cut, each year; the"
                + " last one the rest.");
        dueYears(40, "years 4;", 10, 10, 10, 10);
        dueYears(41, "years 4;", 10, 10, 10, 11);
        dueYears(43, "years 4;", 10, 10, 10, 13);
        dueYears(3, "years 4;", 0, 0, 0, 3);
        dueYears(4, "years 4;", 1, 1, 1, 1);
        dueYears(7, "years 1;", 7);
        dueYears(7, "years 2; price 3; soil 0 is 15;", 15, 15);
        dueYears(9, "years 2; price 0;", 0, 0);
        dueYears(1, "years 2; price 9999; soil 0 is 9;", 0, 0);
        LandReform x = sold(100, "years 40;");
        for (int i = 0; i < 39; i++) {
            due("of forty " + i, x.year(0, true), 2);
        }
        due("the rest of forty", x.year(0, true), 22);
        due("all is paid", x.year(0, true), NONE);
        LandReform y = sold(100, "years 1; price 9999; soil 0 is 9999;");
        due("the most", y.sale(0, 2), 999800010);
        due("the most", y.year(0, true), 999800010);
        LandReform z = sold(100, "years 40; price 9999; soil 0 is 9999;");
        for (int i = 0; i < 39; i++) {
            due("of the most " + i, z.year(0, true), 24995000);
        }
        due("the rest of the most", z.year(0, true), 24995010);
    }

    private static void putOff() {
        sentence(TERMS, "A year that failed is put off: its part comes behind the others (behind that of the rest, too).");
        dueYears(43, "years 4;", NONE, 10, 10, 13, 10);
        dueYears(43, "years 4;", 10, NONE, 10, 13, 10);
        dueYears(43, "years 4;", 10, 10, 10, NONE, 13);
        dueYears(43, "years 4;", 10, 10, NONE, NONE, 10, 13);
        dueYears(43, "years 4;", NONE, 10, 10, NONE, 10, 13);
        dueYears(43, "years 4;", NONE, 10, 10, 13, NONE, NONE, 10);
        dueYears(43, "years 4;", NONE, NONE, NONE, NONE, 10, 10, 10, 13);
        dueYears(43, "years 4;", NONE, NONE, NONE, NONE, NONE, 10, 10, 13, 10);
        dueYears(43, "years 1;", NONE, NONE, 43);
        LandReform x = sold(43, "years 4;");
        for (int i = 0; i < 400; i++) {
            due("failed " + i, x.year(0, false), 0);
        }
        due("put off", x.sale(0, 5), 400);
        due("parts left", x.sale(0, 4), 4);
        due("the first again", x.year(0, true), 10);
    }

    private static void salesInAll() {
        sentence(TERMS, "SALES, up to 20.");
        LandReform x = withAreas(10, 20);
        for (int i = 0; i < 20; i++) {
            due("sale " + i, x.sell(i % 2, 0), i);
        }
        due("the 21st", x.sell(0, 0), NONE);
        due("sales", x.count(5), 20);
        due("of the last", x.sale(19, 2), 20);
        for (int i = 0; i < 10; i++) {
            x.year(0, true);
        }
        due("one paid makes no room", x.sell(0, 0), NONE);
    }

    // ---- the promises

    private static void promise1NewObject() {
        sentence(1, "No PERSONS, FIELDS; THE ACT is as without a text.");
        LandReform x = new LandReform();
        for (int i = 0; i < 8; i++) {
            due("count " + i, x.count(i), 0);
        }
        due("fault", x.fault(), NONE);
        due("no person", x.transfer(0, 0), false);
        due("no field", x.told(0, 0), NONE);
        due("may have", x.house(0, 2), 100);
        due("the other object", withPersons(3).count(1) + x.count(1), 3);
    }

    private static void promise2Person() {
        sentence(2, "A PERSON: the number. NONE, doing nothing: not as told, 40 are there.");
        for (int bad : outside(0, 19)) {
            refused("person of house " + bad, BoundaryTest::tellVillage, y -> y.person(bad, 5), NONE);
        }
        for (int bad : outside(0, 99)) {
            refused("person with home " + bad, BoundaryTest::tellVillage, y -> y.person(5, bad), NONE);
        }
        refused("the 41st person", y -> tellPersons(y, 40), y -> y.person(5, 5), NONE);
        due("the 40th", withPersons(39).person(5, 5), 39);
    }

    private static void promise3Akin() {
        sentence(3, "Two are akin: true; false, doing nothing: no such unlike persons, it's told.");
        for (int bad : outside(0, 9)) {
            refused("akin to " + bad, BoundaryTest::tellVillage, y -> y.akin(3, bad) ? 1 : 0, 0);
            refused(bad + " akin", BoundaryTest::tellVillage, y -> y.akin(bad, 3) ? 1 : 0, 0);
        }
        refused("akin to oneself", BoundaryTest::tellVillage, y -> y.akin(4, 4) ? 1 : 0, 0);
        refused("akin again", BoundaryTest::tellVillage, y -> y.akin(0, 5) ? 1 : 0, 0);
        refused("akin the other way", BoundaryTest::tellVillage, y -> y.akin(5, 0) ? 1 : 0, 0);
        LandReform kin = withPersons(40);
        for (int i = 0; i < 39; i++) {
            due("akin to the last", kin.akin(i, 39), true);
            due("that is told", kin.akin(39, i), false);
            due("to the next", kin.akin(i + 1, i), i < 38);
        }
        due("pairs", kin.count(7), 77);
    }

    private static void promise4Field() {
        sentence(4, "A FIELD: its number. NONE, doing nothing: not as told, 60 are there.");
        int[] least = {0, 1, 0, 0, 0};
        int[] most = {99, 100, 3, 9, 9};
        for (int i = 0; i < 5; i++) {
            for (int bad : outside(least[i], most[i])) {
                int[] f = least.clone();
                f[i] = bad;
                Call call = y -> y.field(f[0], f[1], f[2], f[3], f[4]);
                refused("a field's value " + i + ": " + bad, BoundaryTest::tellVillage, call, NONE);
            }
        }
        refused("a field without persons", y -> { }, y -> y.field(0, 1, 0, 0, 0), NONE);
        Story sixty = y -> {
            tellVillage(y);
            for (int i = 12; i < 60; i++) {
                y.field(i, i, 1, 1, 1);
            }
        };
        refused("the 61st field", sixty, y -> y.field(0, 1, 0, 0, 0), NONE);
    }

    private static void promise5Day() {
        sentence(5, "TODAY becomes a later DAY: true; false, doing nothing: it isn't, or above 1,000.");
        for (int bad : new int[] {6, 5, 0, -1, LOW, 1001, HIGH, 65536 + 7}) {
            refused("day " + bad, BoundaryTest::tellVillage, y -> y.day(bad) ? 1 : 0, 0);
        }
        LandReform days = new LandReform();
        due("0 isn't later", days.day(0), false);
        due("by one", days.day(1), true);
        due("again", days.day(1), false);
        due("to the last but one", days.day(999), true);
        due("to the last", days.day(1000), true);
        due("the last again", days.day(1000), false);
        due("beyond", days.day(1001), false);
        due("today", days.count(0), 1000);
    }

    private static void promise6Transfer() {
        sentence(6, "A TRANSFER: true. False, doing nothing: no such FIELD, person; it's the owner; 200 are told.");
        for (int bad : outside(0, 11)) {
            refused("transfer of " + bad, BoundaryTest::tellVillage, y -> y.transfer(bad, 3) ? 1 : 0, 0);
        }
        for (int bad : outside(0, 9)) {
            refused("transfer to " + bad, BoundaryTest::tellVillage, y -> y.transfer(2, bad) ? 1 : 0, 0);
        }
        refused("transfer to the owner", BoundaryTest::tellVillage, y -> y.transfer(0, 5) ? 1 : 0, 0);
        refused("transfer to the first owner", BoundaryTest::tellVillage, y -> y.transfer(2, 2) ? 1 : 0, 0);
        refused("the 201st", y -> tellTransfers(y, 200), y -> y.transfer(2, 3) ? 1 : 0, 0);
        LandReform x = new LandReform();
        tellTransfers(x, 199);
        due("the 200th", x.transfer(2, 3), true);
        due("transfers", x.count(3), 200);
    }

    private static void promise7Feed() {
        sentence(7, "Twenty bytes come behind those on the tape, of each number the highest first: how many there are.");
        LandReform tape = new LandReform();
        due("twenty", tape.feed(0x6365696c, 0x696e6720, 0x37373b64, 0x61792036, 0x353b0a20), 20);
        due("forty", tape.feed(0x63656900, 0, 0, 0, 0xff), 40);
        due("the second twenty are behind", tape.act(40), NONE);
        due("there", tape.fault(), 20);
        due("twenty again", tape.feed(0x6365696c, 0x696e6720, 0x37373b64, 0x61792036, 0x353b0a20), 20);
        due("two statements", tape.act(19), 2);
        due("of highest bytes first", tape.house(0, 2), 77);
        due("bytes above 127", tape.feed(0xe4f6fcdf, -1, LOW, HIGH, -1), 20);
        due("are no letters", tape.act(20), NONE);
        due("the first", tape.fault(), 0);
    }

    private static void promise7FeedRefused() {
        sentence(7, "NONE, doing nothing: there would be more than 400.");
        Story full = y -> {
            tellVillage(y);
            for (int i = 40; i < 400; i += 20) {
                y.feed(0x20202020, 0x20202020, 0x20202020, 0x20202020, 0x20202020);
            }
        };
        LandReform tape = new LandReform();
        refused("the 401st byte", full, y -> y.feed(1, 2, 3, 4, 5), NONE);
        for (int i = 20; i <= 400; i += 20) {
            due("bytes", tape.feed(0x0a0a0a0a, 0x20202020, 0x20202020, 0x20202020, 0x20202020), i);
        }
        due("too many", tape.feed(0, 0, 0, 0, 0), NONE);
        due("bytes", tape.count(6), 400);
        due("blanks alone", tape.act(400), 0);
        due("room again", tape.feed(0, 0, 0, 0, 0), 20);
    }

    private static void promise8Act() {
        sentence(8, "The first n bytes of the tape (which is empty then) are THE ACT: how many statements.");
        LandReform x = withPersons(1);
        feedText(x, "ceiling 7;ceiling 8;ceiling 9;");
        due("ten", x.act(10), 1);
        due("empty then", x.count(6), 0);
        due("the first ten", x.house(0, 2), 7);
        feedText(x, "ceiling 7;ceiling 8;");
        due("all", x.act(20), 2);
        due("all", x.house(0, 2), 8);
        feedText(x, "ceiling 7;ceiling 8;");
        due("none", x.act(0), 0);
        due("empty then", x.count(6), 0);
        due("as without a text", x.house(0, 2), 100);
        due("none of none", x.act(0), 0);
        String most = "soil 3 is 9999;".repeat(15) + " ".repeat(165) + "ceiling 5;";
        due("four hundred", act(x, most), 16);
        due("the last statement of them", x.house(0, 2), 5);
    }

    private static void promise8ActWithAFault() {
        sentence(8, "NONE: a FAULT (THE ACT stays);");
        LandReform y = withAreas(10);
        act(y, "ceiling 6; exempt 0; price 4; shares 1; soil 0 is 20;");
        y.share(0, 0, 1);
        due("a fault at its end", act(y, "ceiling 5; exempt 1; price 7; shares 9; soil 0 is 1; day"), NONE);
        due("the tape is empty", y.count(6), 0);
        due("ceiling", y.house(0, 2), 6);
        due("exempt", y.told(0, 8), 1);
        due("soil", y.told(0, 5), 20);
        due("statements", y.count(4), 5);
        due("price", y.sale(y.sell(0, 0), 2), 80);
        due("a fault again", act(y, "ceiling 3; day"), NONE);
        due("ceiling still", y.house(0, 2), 6);
        due("a good one", act(y, "price 2;"), 1);
        due("nothing of those with a fault", y.house(0, 2), 100);
        due("nor of those", y.told(0, 5), 10);
    }

    private static void promise8ActRefused() {
        sentence(8, "-2, doing nothing: n is below 0 or more than there are.");
        for (int bad : new int[] {-1, -2, LOW, 41, 60, 400, 401, HIGH, 256 + 20, 65536 + 20}) {
            refused("act " + bad, BoundaryTest::tellVillage, z -> z.act(bad), -2);
        }
        refused("act 1 of an empty tape", z -> tellPersons(z, 2), z -> z.act(1), -2);
        due("as many as there are", act(new LandReform(), "day 5;              "), 1);
    }

    private static void promise9Fault() {
        sentence(9, "The FAULT's place of the latest act() that was a number or NONE; NONE: it had none.");
        LandReform x = new LandReform();
        due("no act", x.fault(), NONE);
        due("-2", x.act(1), -2);
        due("no act but -2", x.fault(), NONE);
        act(x, "day x;");
        due("a fault", x.fault(), 4);
        due("asked again", x.fault(), 4);
        x.act(9);
        due("-2 behind it", x.fault(), 4);
        feedText(x, "x");
        due("a text not yet an act", x.fault(), 4);
        x.act(21);
        due("-2 with a text", x.fault(), 4);
        x.act(20);
        due("the latest", x.fault(), 0);
        act(x, "day 5;");
        due("a good one", x.fault(), NONE);
        x.act(-1);
        due("-2 behind it", x.fault(), NONE);
        act(x, " ".repeat(395) + "day 5");
        due("the last place", x.fault(), 400);
        x.act(0);
        due("an empty text", x.fault(), NONE);
    }

    private static void dueNoneSuch(String what, Call call) {
        refused(what, BoundaryTest::tellVillage, call, NONE);
    }

    private static void promise10Told() {
        sentence(10, "Of a FIELD: 0 place, 1 AREA, 2 SOIL, 3 CROP, 4 owner now, 5 STANDARD, 6 COUNTED owner, 7 TENANT (NONE),"
                + " 8 exempt (1), 9 TRANSFERS of it. NONE: none such.");
        LandReform x = new LandReform();
        tellVillage(x);
        int[] first = {0, 10, 0, 0, 5, 10, 1, 2, 0, 2};
        int[] third = {74, 20, 2, 2, 2, 20, 2, NONE, 1, 0};
        int[] last = {7, 65, 3, 1, 1, 65, 1, NONE, 0, 0};
        for (int i = 0; i < 10; i++) {
            due("told 0, " + i, x.told(0, i), first[i]);
            due("told 2, " + i, x.told(2, i), third[i]);
            due("told 11, " + i, x.told(11, i), last[i]);
        }
        for (int i = 0; i < 8; i++) {
            int field = outside(0, 11)[i];
            int what = outside(0, 9)[i];
            dueNoneSuch("told of field " + field, y -> y.told(field, within5(field)));
            dueNoneSuch("told " + what, y -> y.told(0, what));
        }
    }

    private static void promise11Owned() {
        LandReform x = new LandReform();
        tellVillage(x);
        sentence(11, "Who owned a FIELD as a DAY (0 to 1,000) ended, as far as TRANSFERS are told. NONE: none such.");
        int[] days = {0, 2, 3, 5, 6, 7, 1000};
        int[] owners = {0, 0, 1, 1, 5, 5, 5};
        for (int i = 0; i < days.length; i++) {
            due("owned on " + days[i], x.owned(0, days[i]), owners[i]);
            due("never moved, on " + days[i], x.owned(11, days[i]), 1);
        }
        for (int bad : outside(0, 11)) {
            dueNoneSuch("owned, field " + bad, y -> y.owned(bad, 3));
        }
        for (int bad : new int[] {-1, 1001, LOW, HIGH, 65536}) {
            dueNoneSuch("owned, day " + bad, y -> y.owned(0, bad));
        }
    }

    private static void promise12House() {
        LandReform x = new LandReform();
        tellVillage(x);
        sentence(12, "Of a HOUSE: persons (0), HOLDING (1), what it may have (2), ABOVE (3), FIELDS that count (4). NONE: none"
                + " such.");
        int[] house1 = {3, 159, 70, 89, 5};
        for (int i = 0; i < 5; i++) {
            due("house 1, " + i, x.house(1, i), house1[i]);
            due("house 19, " + i, x.house(19, i), i == 2 ? 70 : 0);
        }
        for (int i = 0; i < 8; i++) {
            int house = outside(0, 19)[i];
            int what = outside(0, 4)[i];
            dueNoneSuch("house " + house, y -> y.house(house, within5(house)));
            dueNoneSuch("house, what " + what, y -> y.house(1, what));
        }
    }

    /** Another number for each wrong one, so that not all the wrong ones are asked the same. */
    private static int within5(int number) {
        return Math.floorMod(number, 5);
    }

    /** Fields 0, 2 and 4 of house 0, of which 2 and 4 are kept; 1 is another's, 3 exempt. */
    private static LandReform unlikeFields() {
        LandReform x = withPersons(2);
        int[] areas = {30, 99, 25, 98, 50};
        for (int i = 0; i < 5; i++) {
            x.field(0, areas[i], 0, i == 3 ? 7 : 0, i == 1 ? 1 : 0);
        }
        act(x, "ceiling 75; exempt 7;");
        return x;
    }

    private static void promise13Kept() {
        sentence(13, "KEPT by a HOUSE: the sum of AREAS (k NONE), whether the k-th of its FIELDS that count (by numbers) is"
                + " KEPT (1, 0).");
        LandReform x = unlikeFields();
        due("the sum", x.kept(0, NONE), 75);
        due("the first", x.kept(0, 0), 0);
        due("the second, field 2", x.kept(0, 1), 1);
        due("the third, field 4", x.kept(0, 2), 1);
        due("no fourth", x.kept(0, 3), NONE);
        due("a house that keeps nothing", x.kept(1, NONE), 0);
        due("a house that keeps nothing", x.kept(1, 0), 0);
        due("a house with nothing", x.kept(2, NONE), 0);
        due("a house with nothing", x.kept(2, 0), NONE);
    }

    private static void promise13KeptRefused() {
        sentence(13, "NONE: none such; more than 12 count.");
        for (int bad : outside(0, 19)) {
            dueNoneSuch("kept by " + bad, y -> y.kept(bad, NONE));
            dueNoneSuch("kept by " + bad, y -> y.kept(bad, 0));
        }
        for (int bad : new int[] {-2, 5, 12, LOW, HIGH, 256, 255}) {
            dueNoneSuch("kept " + bad, y -> y.kept(1, bad));
        }
        LandReform many = withAreas(1, 1, 1, 1, 1, 1, 1, 1, 1, 1, 1, 1);
        due("twelve", many.kept(0, NONE), 12);
        for (int i = 13; i <= 60; i++) {
            many.field(0, 1, 0, 0, 0);
            due("fields " + i, many.kept(0, NONE), NONE);
            due("fields " + i, many.kept(0, i - 1), NONE);
            due("fields " + i, many.taken(0, 0), NONE);
        }
    }

    private static void promise14Taken() {
        LandReform x = unlikeFields();
        sentence(14, "The k-th FIELD TAKEN from a HOUSE. NONE: none such.");
        due("the first", x.taken(0, 0), 0);
        due("no second", x.taken(0, 1), NONE);
        due("of the other house", x.taken(1, 0), 1);
        act(x, "ceiling 29; exempt 7;");
        due("the first", x.taken(0, 0), 0);
        due("the second", x.taken(0, 1), 4);
        due("no third", x.taken(0, 2), NONE);
        due("a house with nothing", x.taken(2, 0), NONE);
        for (int bad : outside(0, 19)) {
            dueNoneSuch("taken from " + bad, y -> y.taken(bad, 0));
        }
        for (int bad : new int[] {-1, -2, 4, 12, LOW, HIGH, 256}) {
            dueNoneSuch("taken " + bad, y -> y.taken(1, bad));
        }
    }

    /** The village with sixty pairs of a field and a person, the first being 0 and 2, the last 5 and 9. */
    private static void tellSixtyPairs(LandReform x) {
        tellVillage(x);
        for (int i = 0; i < 60; i++) {
            if (i != 2 && i != 13 && i != 56) {
                x.share(i / 10, i % 10, 7);
            }
        }
    }

    private static void promise15Share() {
        sentence(15, "A person tilled a FIELD for a share in a year 0 to 29: in how many different ones then.");
        LandReform x = new LandReform();
        tellVillage(x);
        for (int i = 0; i < 30; i++) {
            due("year " + i, x.share(2, 3, i), i + 1);
            due("year " + i + " again", x.share(2, 3, i), i + 1);
        }
        due("the first again", x.share(2, 3, 0), 30);
        due("another field", x.share(3, 3, 0), 1);
        due("another person", x.share(2, 2, 0), 1);
    }

    private static void promise15ShareRefused() {
        sentence(15, "NONE, doing nothing: none such; another 60 pairs are told.");
        for (int bad : outside(0, 11)) {
            dueNoneSuch("share of field " + bad, y -> y.share(bad, 3, 3));
        }
        for (int bad : outside(0, 9)) {
            dueNoneSuch("share of person " + bad, y -> y.share(0, bad, 3));
        }
        for (int bad : new int[] {-1, 30, 31, 32, LOW, HIGH, 64, 256}) {
            dueNoneSuch("share in year " + bad, y -> y.share(0, 2, bad));
        }
        refused("the 61st pair", BoundaryTest::tellSixtyPairs, y -> y.share(6, 0, 0), NONE);
        LandReform sixty = new LandReform();
        tellSixtyPairs(sixty);
        due("the 61st", sixty.share(11, 9, 0), NONE);
        due("the first told", sixty.share(0, 2, 9), 3);
        due("the last told", sixty.share(5, 9, 9), 2);
        due("the 61st still", sixty.share(11, 9, 0), NONE);
    }

    private static void promise16Given() {
        sentence(16, "GIVEN: the sum (k NONE), the person of the k-th FIELD. NONE: not as told.");
        LandReform g = withHomes(7, 30, 50);
        tellPlaces(g, 48, 9, 30);
        due("the sum", g.given(0, 0, 3, NONE), 4);
        int[] persons = {2, 0, 1};
        for (int i = 0; i < 3; i++) {
            due("person of " + i, g.given(0, 0, 3, i), persons[i]);
        }
        int[][] bad = {
            {0, 0, 0, NONE}, {0, 0, 6, NONE}, {0, 0, 3, 3}, {0, 0, 3, -2}, {0, 0, 3, LOW}, {0, 0, 3, HIGH}, {0, 0, 1, 1},
            {-1, 0, 1, NONE}, {0, -1, 1, NONE}, {12, 0, 1, NONE}, {0, 10, 1, NONE}, {8, 0, 5, NONE}, {0, 6, 5, NONE},
            {HIGH, 0, 5, NONE}, {0, HIGH, 5, NONE}, {HIGH - 3, 0, 5, 0}, {LOW, 0, 5, 0}, {0, LOW, 5, 0}, {-2, 0, 5, 0}};
        for (int[] b : bad) {
            dueNoneSuch("given " + b[0] + " " + b[1] + " " + b[2] + " " + b[3], y -> y.given(b[0], b[1], b[2], b[3]));
        }
        LandReform village = new LandReform();
        tellVillage(village);
        due("to the last of both", village.given(7, 5, 5, 0) != NONE, true);
    }

    private static void promise17Rings() {
        sentence(17, "RINGS: how many (k NONE; one person alone is one, too), which FIELD the k-th of them would have. NONE: not"
                + " as told.");
        LandReform x = withHomes(10, 20, 30, 90);
        tellPlaces(x, 20, 10, 30);
        due("two and one alone", x.rings(0, 3, NONE), 2);
        int[] got = {1, 0, 2};
        for (int i = 0; i < 3; i++) {
            due("field of " + i, x.rings(0, 3, i), got[i]);
        }
        due("each alone", x.rings(1, 2, NONE), 2);
        due("the first of these", x.rings(1, 2, 0), 1);
        due("nothing is done", x.count(3), 0);
        int[][] bad = {
            {0, 1, NONE}, {0, 0, NONE}, {0, 9, NONE}, {0, LOW, NONE}, {0, HIGH, NONE}, {1, 2, 2}, {1, 2, -2}, {1, 2, LOW},
            {1, 2, HIGH}, {-1, 2, NONE}, {9, 2, NONE}, {8, 3, NONE}, {10, 2, NONE}, {LOW, 2, NONE}, {HIGH, 2, NONE},
            {HIGH - 1, 2, 0}, {HIGH, 8, 0}, {3, 8, NONE}, {3, 2, NONE}};
        for (int[] b : bad) {
            dueNoneSuch("rings " + b[0] + " " + b[1] + " " + b[2], y -> y.rings(b[0], b[1], b[2]));
        }
    }

    private static void promise18Swap() {
        sentence(18, "SWAPPED: how many FIELDS change. NONE, doing nothing: not as rings(), not as many TRANSFERS are left.");
        LandReform x = withHomes(10, 20, 30);
        tellPlaces(x, 20, 10, 30);
        due("two change", x.swap(0, 3), 2);
        due("none changes", x.swap(0, 3), 0);
        int[][] bad = {
            {0, 1}, {0, 0}, {0, 9}, {0, LOW}, {0, HIGH}, {-1, 2}, {9, 2}, {8, 3}, {10, 2}, {LOW, 2}, {HIGH, 2}, {HIGH, 8},
            {3, 8}, {3, 2}, {2, 2}};
        for (int[] b : bad) {
            dueNoneSuch("swap " + b[0] + " " + b[1], y -> y.swap(b[0], b[1]));
        }
        Story oneLeft = y -> {
            tellVillage(y);
            y.transfer(0, 0);
            for (int i = y.count(3); i < 199; i++) {
                y.transfer(11, i % 2 == 0 ? 8 : 9);
            }
        };
        LandReform left = new LandReform();
        oneLeft.tell(left);
        due("one left", left.count(3), 199);
        due("rings", left.rings(5, 2, NONE), 1);
        refused("swap with one left", oneLeft, y -> y.swap(5, 2), NONE);
    }

    private static void promise19Sell() {
        sentence(19, "A SALE of a FIELD to a BUYER (by THE ACT in force; no TRANSFER): its number.");
        LandReform x = withAreas(30);
        x.person(1, 1);
        due("the first", x.sell(0, 1), 0);
        act(x, "price 2; years 3; soil 0 is 5;");
        due("the second, of the same field", x.sell(0, 1), 1);
        due("to the owner", x.sell(0, 0), 2);
        act(x, "price 9; years 9;");
        int[] owed = {30, 30, 30};
        int[] parts = {10, 3, 3};
        for (int i = 0; i < 3; i++) {
            due("owed " + i, x.sale(i, 2), owed[i]);
            due("parts " + i, x.sale(i, 4), parts[i]);
        }
        due("no transfer", x.count(3), 0);
        due("the owner", x.told(0, 4), 0);
    }

    private static void promise19SellRefused() {
        sentence(19, "NONE, doing nothing: none such, 20 are there.");
        for (int bad : outside(0, 11)) {
            dueNoneSuch("sell " + bad, y -> y.sell(bad, 0));
        }
        for (int bad : outside(0, 9)) {
            dueNoneSuch("sell to " + bad, y -> y.sell(0, bad));
        }
        Story twenty = y -> {
            tellVillage(y);
            for (int i = 2; i < 20; i++) {
                y.sell(i % 12, i % 10);
            }
        };
        refused("the 21st sale", twenty, y -> y.sell(0, 0), NONE);
    }

    private static void promise20Year() {
        sentence(20, "A year of a SALE, good or failed: what is paid. NONE, doing nothing: none such, all is paid.");
        LandReform years = new LandReform();
        tellVillage(years);
        due("a good one", years.year(0, true), 7);
        due("one that failed", years.year(0, false), 0);
        due("a good one", years.year(0, true), 7);
        due("the rest, put off", years.year(0, true), 9);
        due("all is paid", years.year(0, true), NONE);
        due("all is paid", years.year(0, false), NONE);
        due("the other sale", years.sale(1, 3), 0);
        Story paid = y -> {
            tellVillage(y);
            for (int i = 0; i < 3; i++) {
                y.year(0, true);
            }
        };
        refused("a good year when all is paid", paid, y -> y.year(0, true), NONE);
        refused("a failed year when all is paid", paid, y -> y.year(0, false), NONE);
        for (int bad : outside(0, 1)) {
            dueNoneSuch("a year of sale " + bad, y -> y.year(bad, true));
            dueNoneSuch("a failed year of sale " + bad, y -> y.year(bad, false));
        }
    }

    private static void promise21Sale() {
        sentence(21, "Of a SALE: FIELD (0), BUYER (1), all that is owed (2), paid so far (3), parts left (4), years that were put"
                + " off (5). NONE: none such.");
        LandReform x = new LandReform();
        tellVillage(x);
        int[] first = {0, 3, 30, 7, 3, 1};
        int[] second = {4, 1, 90, 0, 4, 0};
        for (int i = 0; i < 6; i++) {
            due("sale 0, " + i, x.sale(0, i), first[i]);
            due("sale 1, " + i, x.sale(1, i), second[i]);
        }
        for (int i = 0; i < 8; i++) {
            int sale = outside(0, 1)[i];
            int what = outside(0, 5)[i];
            dueNoneSuch("sale " + sale, y -> y.sale(sale, within5(sale)));
            dueNoneSuch("sale, what " + what, y -> y.sale(0, what));
        }
        due("without sales", new LandReform().sale(0, 0), NONE);
    }

    private static void promise22Count() {
        LandReform x = new LandReform();
        tellVillage(x);
        sentence(22, "0 TODAY, 1 PERSONS, 2 FIELDS, 3 TRANSFERS, 4 statements of THE ACT, 5 SALES, 6 bytes on the tape, 7 pairs"
                + " akin. NONE for others.");
        int[] counts = {6, 10, 12, 4, 8, 2, 40, 2};
        for (int i = 0; i < 8; i++) {
            due("count " + i, x.count(i), counts[i]);
        }
        for (int bad : outside(0, 7)) {
            dueNoneSuch("count " + bad, y -> y.count(bad));
        }
    }

    // ---- the document

    private static void lookUpTheQuotes() throws IOException {
        if (!Files.isRegularFile(DOCUMENT)) {
            System.out.println(DOCUMENT + " isn't there: the sentences are not looked up");
            return;
        }
        String document = Files.readString(DOCUMENT).replaceAll("```(text|java)?|==== \\d\\.", " ").replaceAll("\\s+", " ");
        document = document.substring(0, document.indexOf("## Not promised"));
        String[] sections = document.split("## Promise \\d+: [a-zA-Z ]*");
        part = "the document";
        due("promises", sections.length - 1, 22);
        for (int i = 0; i < sections.length; i++) {
            List<String> mine = quotes.getOrDefault(i, List.of());
            for (String quote : mine) {
                due("stands in section " + i + ": " + quote, sections[i].contains(quote), true);
            }
            String text = i == TERMS ? sections[i].substring(sections[i].indexOf("## Terms") + 8) : sections[i];
            for (String words : text.trim().replaceAll("^`[^`]*`: ", "").split("(?<=[.;])\\s+")) {
                due("is tested in section " + i + ": " + words, mine.stream().anyMatch(q -> q.contains(words)), true);
            }
        }
    }
}
