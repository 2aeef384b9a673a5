import java.nio.charset.StandardCharsets;

/** For each promise of the document: ordinary inputs, the edges that it names, wrong inputs. */
public final class PromiseTest {
    private static final int NONE = LandReform.NONE;
    private static final int LOW = Integer.MIN_VALUE;
    private static final int HIGH = Integer.MAX_VALUE;
    private static int checks = 0;
    private static int wrong = 0;
    private static String part = "";

    public static void main(String[] args) {
        newObject();
        person();
        akin();
        field();
        day();
        transfer();
        feed();
        actGrammar();
        actInForce();
        actNumbers();
        fault();
        faultOfTheSeventeenth();
        told();
        counted();
        tenant();
        owned();
        house();
        kept();
        keptOfEqualOnes();
        taken();
        share();
        given();
        givenOfEqualOnes();
        rings();
        ringsOfEqualOnes();
        swap();
        swapWithoutTransfersLeft();
        sell();
        year();
        yearPutOff();
        sale();
        count();
        System.out.println(checks + " checks, " + wrong + " wrong");
        if (wrong != 0) {
            System.exit(1);
        }
    }

    private static void due(String what, int got, int want) {
        checks++;
        if (got != want) {
            wrong++;
            System.out.println(part + ": " + what + " answered " + got + ", due is " + want);
        }
    }

    private static void due(String what, boolean got, boolean want) {
        due(what, got ? 1 : 0, want ? 1 : 0);
    }

    /** An object with as many persons, the i-th of house i % 20 with the home i. */
    private static LandReform withPersons(int persons) {
        LandReform x = new LandReform();
        for (int i = 0; i < persons; i++) {
            x.person(i % 20, i);
        }
        return x;
    }

    private static LandReform withHomes(int... homes) {
        LandReform x = new LandReform();
        for (int i = 0; i < homes.length; i++) {
            x.person(i % 20, homes[i]);
        }
        return x;
    }

    private static void feedText(LandReform x, String text) {
        byte[] bytes = text.getBytes(StandardCharsets.ISO_8859_1);
        int[] n = new int[(bytes.length + 19) / 20 * 5];
        for (int i = 0; i < n.length * 4; i++) {
            n[i / 4] = n[i / 4] << 8 | (i < bytes.length ? bytes[i] & 255 : 32);
        }
        for (int i = 0; i < n.length; i += 5) {
            x.feed(n[i], n[i + 1], n[i + 2], n[i + 3], n[i + 4]);
        }
    }

    private static int act(LandReform x, String text) {
        feedText(x, text);
        return x.act(text.length());
    }

    private static void newObject() {
        part = "1 new object";
        LandReform x = new LandReform();
        for (int i = 0; i < 8; i++) {
            due("count " + i, x.count(i), 0);
        }
        due("fault", x.fault(), NONE);
        due("told", x.told(0, 0), NONE);
        due("may have", x.house(0, 2), 100);
        due("transfer", x.transfer(0, 0), false);
        due("sale", x.sale(0, 0), NONE);
        LandReform y = new LandReform();
        y.person(0, 0);
        y.day(5);
        due("another object's persons", x.count(1), 0);
        due("another object's day", x.count(0), 0);
        for (int i = 0; i < 5; i++) {
            y.person(0, 0);
        }
        y.field(0, 37, 3, 9, 0);
        due("standard without a text", y.told(0, 5), 37);
        due("exempt without a text", y.told(0, 8), 0);
        due("family without a text", y.house(0, 2), 100);
        due("sold at price 1", y.sale(y.sell(0, 0), 2), 37);
        due("in ten parts", y.sale(0, 4), 10);
        y.share(0, 1, 0);
        due("one year isn't enough", y.told(0, 7), NONE);
        y.share(0, 1, 1);
        due("two years are", y.told(0, 7), 1);
        y.day(1000);
        y.person(1, 1);
        y.akin(0, 6);
        y.transfer(0, 6);
        due("a gift to kin counts on day 1000", y.told(0, 6), 6);
    }

    private static void person() {
        part = "2 person";
        LandReform x = new LandReform();
        int[][] bad = {{-1, 0}, {20, 0}, {0, -1}, {0, 100}, {LOW, 0}, {HIGH, 0}, {0, LOW}, {0, HIGH}};
        for (int[] b : bad) {
            due("person " + b[0] + " " + b[1], x.person(b[0], b[1]), NONE);
        }
        due("none came", x.count(1), 0);
        due("least", x.person(0, 0), 0);
        due("greatest", x.person(19, 99), 1);
        for (int i = 2; i < 40; i++) {
            due("next", x.person(3, 50), i);
        }
        due("the 41st", x.person(3, 50), NONE);
        due("forty", x.count(1), 40);
        due("of house 3", x.house(3, 0), 38);
        due("of house 19", x.house(19, 0), 1);
    }

    private static void akin() {
        part = "3 akin";
        LandReform x = withPersons(40);
        due("no a", x.akin(-1, 0), false);
        due("no b", x.akin(0, 40), false);
        due("low", x.akin(LOW, HIGH), false);
        due("alike", x.akin(4, 4), false);
        due("none", x.count(7), 0);
        due("two", x.akin(38, 39), true);
        due("told", x.akin(38, 39), false);
        due("told the other way", x.akin(39, 38), false);
        due("others", x.akin(0, 39), true);
        due("others", x.akin(6, 38), true);
        due("pairs", x.count(7), 3);
        LandReform y = withPersons(2);
        due("not there yet", y.akin(0, 2), false);
        y.person(0, 0);
        due("there", y.akin(0, 2), true);
    }

    private static void field() {
        part = "4 field";
        LandReform x = withPersons(2);
        int[][] bad = {
            {-1, 1, 0, 0, 0}, {100, 1, 0, 0, 0}, {0, 0, 0, 0, 0}, {0, 101, 0, 0, 0}, {0, 1, -1, 0, 0},
            {0, 1, 4, 0, 0}, {0, 1, 0, -1, 0}, {0, 1, 0, 10, 0}, {0, 1, 0, 0, -1}, {0, 1, 0, 0, 2},
            {HIGH, 1, 0, 0, 0}, {0, LOW, 0, 0, 0}, {0, 1, HIGH, 0, 0}, {0, 1, 0, LOW, 0}, {0, 1, 0, 0, HIGH}};
        for (int[] b : bad) {
            due("bad", x.field(b[0], b[1], b[2], b[3], b[4]), NONE);
        }
        due("none came", x.count(2), 0);
        due("least", x.field(0, 1, 0, 0, 0), 0);
        due("greatest", x.field(99, 100, 3, 9, 1), 1);
        for (int i = 2; i < 60; i++) {
            due("next", x.field(i, i, 1, 2, 0), i);
        }
        due("the 61st", x.field(1, 1, 1, 1, 1), NONE);
        due("sixty", x.count(2), 60);
        due("its place", x.told(59, 0), 59);
    }

    private static void day() {
        part = "5 day";
        LandReform x = new LandReform();
        due("today", x.day(0), false);
        due("below", x.day(-1), false);
        due("above", x.day(1001), false);
        due("far above", x.day(HIGH), false);
        due("far below", x.day(LOW), false);
        due("0", x.count(0), 0);
        due("later", x.day(7), true);
        due("again", x.day(7), false);
        due("earlier", x.day(6), false);
        due("7", x.count(0), 7);
        due("last", x.day(1000), true);
        due("beyond", x.day(1001), false);
        due("1000", x.count(0), 1000);
    }

    private static void transfer() {
        part = "6 transfer";
        LandReform x = withPersons(3);
        x.field(0, 1, 0, 0, 0);
        x.field(0, 1, 0, 0, 1);
        due("no field", x.transfer(2, 1), false);
        due("no field", x.transfer(-1, 1), false);
        due("no person", x.transfer(0, 3), false);
        due("no person", x.transfer(0, -1), false);
        due("low, high", x.transfer(LOW, HIGH), false);
        due("owner", x.transfer(0, 0), false);
        due("none", x.count(3), 0);
        due("one", x.transfer(0, 1), true);
        due("owner now", x.told(0, 4), 1);
        due("the other field", x.told(1, 4), 1);
        due("owner again", x.transfer(0, 1), false);
        for (int i = 1; i < 200; i++) {
            due("next", x.transfer(0, i % 2 == 0 ? 1 : 2), true);
        }
        due("the 201st", x.transfer(0, 0), false);
        due("the 201st, of another", x.transfer(1, 0), false);
        due("owner then", x.told(0, 4), 2);
        due("200", x.count(3), 200);
        due("of field 0", x.told(0, 9), 200);
        due("of field 1", x.told(1, 9), 0);
    }

    private static void feed() {
        part = "7 feed";
        LandReform x = new LandReform();
        for (int i = 1; i <= 20; i++) {
            due("feed", x.feed(0x20202020, 0x20202020, 0x20202020, 0x20202020, 0x20202020), 20 * i);
        }
        due("too many", x.feed(1, 2, 3, 4, 5), NONE);
        due("400", x.count(6), 400);
        due("blanks alone", x.act(400), 0);
        due("empty", x.count(6), 0);
        // "cei" "ling" ..: the highest byte of each number comes first.
        due("feed", x.feed(0x6365696c, 0x696e6720, 0x37373b64, 0x61792036, 0x353b0a20), 20);
        due("act", x.act(20), 2);
        due("ceiling", x.house(0, 2), 77);
        due("bytes above 127", x.feed(-1, -1, -1, -1, -1), 20);
        due("begin no token", x.act(20), NONE);
        due("at", x.fault(), 0);
        feedText(x, "ceiling 88;         ");
        due("behind", x.feed(0x63656900, 0, 0, 0, 0), 40);
        due("to the 20th", x.act(20), 1);
        due("ceiling", x.house(0, 2), 88);
        feedText(x, "ceiling 88;         ");
        x.feed(0x63656900, 0, 0, 0, 0);
        due("to the 40th", x.act(40), NONE);
        due("at", x.fault(), 20);
    }

    private static void actGrammar() {
        part = "8 act, the text";
        String[] good = {
            "", " ", "\n", "ceiling 5;", "ceiling5;", "ceiling\n5\n;\n", "  ceiling   5  ;  ", "ceiling 0005;",
            "day 9999;", "day 0;", "soil0is0;", "soil 0003 is 9999;", "years 1;", "years 40;", "years 0040;",
            "shares 0;", "price 0;", "family 9999;", "exempt 9999;", "exempt 9;", "ceiling 5;ceiling 5;"};
        int[] statements = {0, 0, 0, 1, 1, 1, 1, 1, 1, 1, 1, 1, 1, 1, 1, 1, 1, 1, 1, 1, 2};
        for (int i = 0; i < good.length; i++) {
            LandReform x = new LandReform();
            due("[" + good[i] + "]", act(x, good[i]), statements[i]);
            due("fault of [" + good[i] + "]", x.fault(), NONE);
            due("statements of [" + good[i] + "]", x.count(4), statements[i]);
        }
        LandReform x = new LandReform();
        due("below 0", x.act(-1), -2);
        due("more than there are", x.act(1), -2);
        feedText(x, "ceiling 7;");
        due("low", x.act(LOW), -2);
        due("high", x.act(HIGH), -2);
        due("more than there are", x.act(21), -2);
        due("nothing done", x.count(6), 20);
        due("all", x.act(20), 1);
        due("empty then", x.count(6), 0);
        feedText(x, "ceiling 7;ceiling 8;ceiling 9;");
        due("a part", x.act(10), 1);
        due("empty then", x.count(6), 0);
        due("ceiling", x.house(0, 2), 7);
        feedText(x, "ceiling 7;ceiling 8;ceiling 9;");
        due("a fault", x.act(9), NONE);
        due("empty then", x.count(6), 0);
    }

    private static void actInForce() {
        part = "8 act, in force";
        LandReform x = withPersons(20);
        for (int i = 0; i < 6; i++) {
            x.person(0, 0);
        }
        x.field(0, 15, 1, 3, 0);
        x.field(0, 15, 2, 4, 0);
        x.field(0, 15, 2, 5, 0);
        String all = "ceiling 50; family 3; exempt 3; exempt 5; soil 1 is 7; price 4; years 3; shares 1;";
        due("act", act(x, all), 8);
        due("ceiling and family", x.house(0, 2), 56);
        due("exempt 3", x.told(0, 8), 1);
        due("not exempt 4", x.told(1, 8), 0);
        due("exempt 5", x.told(2, 8), 1);
        due("standard, cut", x.told(0, 5), 10);
        due("other soil", x.told(1, 5), 15);
        due("price", x.sale(x.sell(0, 0), 2), 40);
        due("years", x.sale(0, 4), 3);
        x.share(0, 1, 0);
        due("shares", x.told(0, 7), 1);
        due("a fault", act(x, "ceiling 9; family 9; exempt 4; soil 2 is 3; price x"), NONE);
        due("the act stays", x.house(0, 2), 56);
        due("the act stays", x.told(1, 8), 0);
        due("the act stays", x.told(1, 5), 15);
        due("the act stays", x.count(4), 8);
        due("-2", x.act(3), -2);
        due("the act stays", x.house(0, 2), 56);
        due("the last of each", act(x, "ceiling 1; soil 2 is 3; ceiling 2; soil 2 is 4; soil 1 is 20;"), 5);
        due("ceiling, no family", x.house(0, 2), 2);
        due("soil 2", x.told(1, 5), 6);
        due("soil 1", x.told(0, 5), 30);
        due("exempt no more", x.told(0, 8), 0);
        due("shares no more", x.told(0, 7), NONE);
        due("price no more", x.sale(x.sell(1, 0), 2), 6);
        due("years no more", x.sale(1, 4), 10);
        due("an empty text", act(x, ""), 0);
        due("as without one", x.house(0, 2), 100);
        due("as without one", x.told(1, 5), 15);
        due("statements", x.count(4), 0);
        due("the sale of before stays", x.sale(0, 2), 40);
    }

    private static void actNumbers() {
        part = "8 act, numbers";
        LandReform x = withPersons(2);
        x.field(0, 100, 0, 0, 0);
        due("greatest", act(x, "price 9999; soil 0 is 9999; ceiling 9999; years 1;"), 4);
        due("standard", x.told(0, 5), 99990);
        due("may have", x.house(0, 2), 9999);
        due("owed", x.sale(x.sell(0, 1), 2), 999800010);
        due("paid", x.year(0, true), 999800010);
        due("least", act(x, "price 0; soil 0 is 0; ceiling 0;"), 3);
        due("standard", x.told(0, 5), 0);
        due("kept at ceiling 0", x.kept(0, NONE), 100);
        due("exempt beyond the crops", act(x, "exempt 32; exempt 10; exempt 9999;"), 3);
        due("exempts nothing", x.told(0, 8), 0);
    }

    private static void fault() {
        part = "9 fault";
        String[] bad = {
            "cei", "Ceiling 5;", "ceilings 5;", "ceiling", "ceiling ", "ceiling 5", "ceiling 5 ", "ceiling;",
            "ceiling 5 6;", "ceiling 12345;", "ceiling 00005;", "ceiling -5;", "ceiling five;", "ceiling 5;;",
            "ceiling 5;5", "ceiling\t5;", "ceiling 5;\r", ";", "5;", "is 5;", "soil 4 is 5;", "soil 0004 is 5;",
            "soil 3 in 5;", "soil 3 iss 5;", "soil 3 is;", "soil 3 is 12345;", "soil 3;", "soil is 5;",
            "soil 3 is 5 is 5;", "years 0;", "years 41;", "years 0000;", "years 00040;", "  family  x",
            "ceiling 5; cap", "ceiling 5;\n\n day", "price 5,", "ceiling5.", "day 5; soil", "day 5; soil 3",
            "day 5; soil 3 is", "day 5; soil 3 is 5", "shares 5 ;#", "dayday 5;", "day day 5;", "ceiling 5a;",
            "\u00e9", "ceiling 5\u00b0;", "exempt\u0000"};
        int[] at = {
            0, 0, 0, 7, 8, 9, 10, 7,
            10, 8, 8, 8, 8, 10,
            10, 7, 10, 0, 0, 0, 5, 5,
            7, 7, 9, 10, 6, 5,
            12, 6, 6, 6, 6, 10,
            11, 16, 7, 8, 11, 13,
            16, 18, 10, 0, 4, 9,
            0, 9, 6};
        for (int i = 0; i < bad.length; i++) {
            LandReform x = new LandReform();
            due("[" + bad[i] + "]", act(x, bad[i]), NONE);
            due("place in [" + bad[i] + "]", x.fault(), at[i]);
            due("no statements of [" + bad[i] + "]", x.count(4), 0);
        }
        LandReform x = new LandReform();
        act(x, "day x;");
        due("-2", x.act(1), -2);
        due("stays behind -2", x.fault(), 4);
        act(x, "day 5 x");
        due("the latest", x.fault(), 6);
        act(x, "day 5;");
        due("it had none", x.fault(), NONE);
        x.act(-1);
        due("none behind -2", x.fault(), NONE);
    }

    private static void faultOfTheSeventeenth() {
        part = "9 fault, 17 statements";
        String sixteen = "day 5;".repeat(16);
        LandReform x = new LandReform();
        due("sixteen", act(x, sixteen), 16);
        due("sixteen", x.count(4), 16);
        due("blanks behind", act(x, sixteen + " \n"), 16);
        due("seventeen", act(x, sixteen + " day 5;"), NONE);
        due("where it begins", x.fault(), 97);
        due("stays", x.count(4), 16);
        due("a word behind", act(x, sixteen + "day"), NONE);
        due("where it begins", x.fault(), 96);
        due("no word behind", act(x, sixteen + "  #"), NONE);
        due("where it begins", x.fault(), 98);
        due("a fault in the 16th", act(x, "day 5;".repeat(15) + "day 5 5; day 5;"), NONE);
        due("where it is", x.fault(), 96);
    }

    private static void told() {
        part = "10 told";
        LandReform x = withPersons(3);
        x.field(11, 22, 3, 4, 0);
        x.field(12, 23, 2, 5, 1);
        act(x, "soil 3 is 12; exempt 5;");
        x.transfer(0, 2);
        x.transfer(0, 1);
        int[] first = {11, 22, 3, 4, 1, 26, 1, NONE, 0, 2};
        int[] second = {12, 23, 2, 5, 1, 23, 1, NONE, 1, 0};
        for (int i = 0; i < 10; i++) {
            due("told 0 " + i, x.told(0, i), first[i]);
            due("told 1 " + i, x.told(1, i), second[i]);
            due("no field", x.told(2, i), NONE);
            due("no field", x.told(-1, i), NONE);
        }
        due("what", x.told(0, 10), NONE);
        due("what", x.told(0, -1), NONE);
        due("low", x.told(LOW, LOW), NONE);
        due("high", x.told(HIGH, HIGH), NONE);
    }

    private static void counted() {
        part = "10 told, the counted owner";
        LandReform x = new LandReform();
        x.person(0, 0);
        x.person(0, 1);
        x.person(1, 2);
        x.person(2, 3);
        x.person(3, 4);
        x.akin(2, 0);
        x.akin(2, 3);
        for (int i = 0; i < 6; i++) {
            x.field(0, 10, 0, 0, 0);
        }
        act(x, "day 10;");
        x.day(10);
        x.transfer(0, 2);
        due("to kin, as the day ends", x.told(0, 6), 2);
        x.transfer(5, 4);
        x.transfer(5, 0);
        x.day(11);
        x.transfer(0, 4);
        due("from kin on", x.told(0, 6), 4);
        x.transfer(1, 1);
        due("to the house", x.told(1, 6), 0);
        x.transfer(1, 2);
        due("to kin of the first", x.told(1, 6), 0);
        x.transfer(1, 3);
        due("to kin of kin", x.told(1, 6), 3);
        x.transfer(2, 2);
        due("to kin", x.told(2, 6), 0);
        x.transfer(2, 4);
        due("from kin to another", x.told(2, 6), 4);
        x.transfer(2, 0);
        due("and back", x.told(2, 6), 0);
        x.transfer(3, 4);
        due("to another", x.told(3, 6), 4);
        due("owner now", x.told(1, 4), 3);
        due("never", x.told(4, 6), 0);
        x.transfer(5, 1);
        due("back, then to the house", x.told(5, 6), 0);
        act(x, "day 11;");
        due("another day", x.told(5, 6), 1);
        due("another day", x.told(1, 6), 3);
        act(x, "day 0;");
        due("an early day", x.told(0, 6), 4);
        due("an early day", x.told(1, 6), 3);
        act(x, "day 9999;");
        due("no day", x.told(5, 6), 1);
    }

    private static void tenant() {
        part = "10 told, the tenant";
        LandReform x = withPersons(4);
        x.field(0, 1, 0, 0, 0);
        x.field(0, 1, 0, 0, 1);
        due("none told", x.told(0, 7), NONE);
        for (int y = 0; y < 5; y++) {
            x.share(0, 0, y);
        }
        due("the owner isn't one", x.told(0, 7), NONE);
        x.share(0, 1, 3);
        x.share(0, 1, 3);
        due("one year twice", x.told(0, 7), NONE);
        x.share(0, 1, 29);
        due("two years", x.told(0, 7), 1);
        due("of the other field none", x.told(1, 7), NONE);
        x.share(0, 2, 0);
        x.share(0, 2, 1);
        due("two of two", x.told(0, 7), NONE);
        x.share(0, 3, 0);
        x.share(0, 3, 1);
        due("three of two", x.told(0, 7), NONE);
        x.share(0, 3, 2);
        due("most years", x.told(0, 7), 3);
        x.share(0, 2, 2);
        due("two of three", x.told(0, 7), NONE);
        x.transfer(0, 2);
        due("the new owner isn't one, the old is", x.told(0, 7), 0);
        act(x, "shares 5;");
        due("five years", x.told(0, 7), 0);
        act(x, "shares 6;");
        due("no six years", x.told(0, 7), NONE);
        act(x, "shares 0;");
        due("most years", x.told(0, 7), 0);
        due("nobody told", x.told(1, 7), NONE);
    }

    private static void owned() {
        part = "11 owned";
        LandReform x = withPersons(3);
        x.day(5);
        x.field(0, 1, 0, 0, 0);
        x.field(0, 1, 0, 0, 2);
        x.transfer(0, 1);
        x.day(9);
        x.transfer(0, 2);
        x.transfer(0, 0);
        x.transfer(0, 2);
        due("before", x.owned(0, 0), 0);
        due("before", x.owned(0, 4), 0);
        due("that day", x.owned(0, 5), 1);
        due("between", x.owned(0, 8), 1);
        due("the last of the day", x.owned(0, 9), 2);
        due("later", x.owned(0, 10), 2);
        due("last day", x.owned(0, 1000), 2);
        due("other field", x.owned(1, 1000), 2);
        due("day", x.owned(0, 1001), NONE);
        due("day", x.owned(0, -1), NONE);
        due("field", x.owned(2, 0), NONE);
        due("field", x.owned(-1, 0), NONE);
        due("low", x.owned(LOW, LOW), NONE);
        due("high", x.owned(HIGH, HIGH), NONE);
    }

    private static void house() {
        part = "12 house";
        LandReform x = new LandReform();
        for (int i = 0; i < 7; i++) {
            x.person(4, i);
            if (i < 5) {
                x.person(19, i);
            }
        }
        x.field(0, 60, 0, 0, 0);
        x.field(0, 55, 1, 1, 2);
        x.field(0, 50, 2, 2, 11);
        x.field(0, 40, 0, 0, 1);
        act(x, "ceiling 90; family 6; soil 1 is 9; exempt 2;");
        int[] of4 = {7, 109, 102, 7, 2};
        int[] of19 = {5, 40, 90, 0, 1};
        int[] of0 = {0, 0, 90, 0, 0};
        for (int i = 0; i < 5; i++) {
            due("house 4, " + i, x.house(4, i), of4[i]);
            due("house 19, " + i, x.house(19, i), of19[i]);
            due("house 0, " + i, x.house(0, i), of0[i]);
            due("no house", x.house(20, i), NONE);
            due("no house", x.house(-1, i), NONE);
        }
        due("what", x.house(4, 5), NONE);
        due("what", x.house(4, -1), NONE);
        due("low", x.house(LOW, LOW), NONE);
        due("high", x.house(HIGH, HIGH), NONE);
        act(x, "ceiling 115;");
        due("as much as it may", x.house(4, 3), 50);
        act(x, "ceiling 165;");
        due("as much as it may", x.house(4, 1), 165);
        due("not above", x.house(4, 3), 0);
    }

    private static LandReform oneHouse(int... areasAndSoils) {
        LandReform x = withPersons(1);
        for (int i = 0; i + 1 < areasAndSoils.length; i += 2) {
            x.field(0, areasAndSoils[i], areasAndSoils[i + 1], 0, 0);
        }
        return x;
    }

    private static void dueKept(LandReform x, int sum, int... kept) {
        due("kept sum", x.kept(0, NONE), sum);
        int taken = 0;
        for (int i = 0; i < kept.length; i++) {
            due("kept " + i, x.kept(0, i), kept[i]);
            if (kept[i] == 0) {
                due("taken " + taken, x.taken(0, taken), i);
                taken++;
            }
        }
        due("kept beyond", x.kept(0, kept.length), NONE);
        due("taken beyond", x.taken(0, taken), NONE);
    }

    private static void kept() {
        part = "13 kept";
        LandReform x = oneHouse(60, 0, 50, 0, 45, 0, 5, 0);
        dueKept(x, 100, 0, 1, 1, 1);
        due("beyond", x.kept(0, 4), NONE);
        due("below", x.kept(0, -2), NONE);
        due("no house", x.kept(20, NONE), NONE);
        due("no house", x.kept(-1, NONE), NONE);
        due("low", x.kept(0, LOW), NONE);
        due("high", x.kept(0, HIGH), NONE);
        due("a house without land", x.kept(7, NONE), 0);
        due("a house without land", x.kept(7, 0), NONE);
        LandReform y = oneHouse(60, 0, 100, 1, 30, 0);
        act(y, "ceiling 80; soil 1 is 8;");
        dueKept(y, 100, 0, 1, 0);
        act(y, "ceiling 59; soil 1 is 8;");
        dueKept(y, 30, 0, 0, 1);
        act(y, "ceiling 0;");
        dueKept(y, 0, 0, 0, 0);
        LandReform twelve = oneHouse(24, 0, 23, 0, 22, 0, 21, 0, 20, 0, 19, 0, 18, 0, 17, 0, 16, 0, 15, 0, 14, 0, 13, 0);
        act(twelve, "ceiling 198;");
        dueKept(twelve, 198, 0, 1, 1, 1, 1, 1, 1, 1, 1, 1, 1, 1);
        act(twelve, "ceiling 221;");
        dueKept(twelve, 209, 1, 1, 1, 1, 1, 1, 1, 1, 1, 1, 1, 0);
        twelve.field(0, 1, 0, 0, 0);
        due("thirteen", twelve.house(0, 4), 13);
        due("thirteen", twelve.kept(0, NONE), NONE);
        due("thirteen", twelve.kept(0, 0), NONE);
        act(twelve, "ceiling 9999;");
        due("thirteen, not above", twelve.kept(0, NONE), NONE);
        twelve.person(1, 0);
        twelve.transfer(3, 1);
        due("twelve again", twelve.kept(0, NONE), 202);
        due("of the other house", twelve.kept(1, NONE), 21);
        for (int i = 0; i < 48; i++) {
            twelve.field(0, 1, 0, 0, 0);
        }
        due("fifty-nine", twelve.house(0, 4), 59);
        due("fifty-nine", twelve.kept(0, 40), NONE);
    }

    private static void keptOfEqualOnes() {
        part = "13 kept, of several the least";
        LandReform x = oneHouse(50, 0, 50, 0, 50, 0);
        dueKept(x, 100, 1, 1, 0);
        LandReform y = oneHouse(60, 0, 40, 0, 30, 0, 70, 0);
        dueKept(y, 100, 1, 1, 0, 0);
        LandReform z = oneHouse(10, 0, 30, 0, 20, 0, 30, 0);
        act(z, "ceiling 30;");
        dueKept(z, 30, 0, 1, 0, 0);
    }

    private static void taken() {
        part = "14 taken";
        LandReform x = oneHouse(40, 0, 40, 0, 40, 0, 40, 0);
        dueKept(x, 80, 1, 1, 0, 0);
        due("first", x.taken(0, 0), 2);
        due("second", x.taken(0, 1), 3);
        due("none", x.taken(0, 2), NONE);
        due("below", x.taken(0, -1), NONE);
        due("low", x.taken(0, LOW), NONE);
        due("high", x.taken(0, HIGH), NONE);
        due("no house", x.taken(20, 0), NONE);
        due("no house", x.taken(-1, 0), NONE);
        due("a house without land", x.taken(9, 0), NONE);
        act(x, "ceiling 160;");
        due("not above", x.taken(0, 0), NONE);
        act(x, "ceiling 159;");
        due("above by one", x.taken(0, 0), 3);
        due("above by one", x.taken(0, 1), NONE);
        for (int i = 0; i < 9; i++) {
            x.field(0, 40, 0, 0, 0);
        }
        due("thirteen", x.taken(0, 0), NONE);
        LandReform y = withPersons(2);
        y.field(0, 90, 0, 0, 1);
        y.field(0, 90, 0, 3, 0);
        y.field(0, 90, 0, 0, 0);
        y.field(0, 80, 0, 0, 0);
        act(y, "exempt 3;");
        due("by the field's number", y.taken(0, 0), 3);
        due("the exempt isn't taken", y.taken(0, 1), NONE);
        due("nor kept", y.kept(0, NONE), 90);
    }

    private static void share() {
        part = "15 share";
        LandReform x = withPersons(40);
        x.field(0, 1, 0, 0, 0);
        x.field(0, 1, 0, 0, 0);
        due("field", x.share(2, 0, 0), NONE);
        due("field", x.share(-1, 0, 0), NONE);
        due("person", x.share(0, 40, 0), NONE);
        due("person", x.share(0, -1, 0), NONE);
        due("year", x.share(0, 0, 30), NONE);
        due("year", x.share(0, 0, -1), NONE);
        due("year", x.share(0, 0, 32), NONE);
        due("low, high", x.share(LOW, HIGH, LOW), NONE);
        for (int y = 0; y < 30; y++) {
            due("year " + y, x.share(0, 1, y), y + 1);
            due("again " + y, x.share(0, 1, y), y + 1);
        }
        due("another field", x.share(1, 1, 7), 1);
        due("another person", x.share(0, 2, 7), 1);
        for (int i = 3; i < 60; i++) {
            due("pair " + i, x.share(i % 2, i / 2 + 3, 0), 1);
        }
        due("the 61st pair", x.share(0, 39, 0), NONE);
        due("a year of one told", x.share(1, 1, 8), 2);
        due("a year of the last told", x.share(1, 32, 8), 2);
        act(x, "shares 1;");
        due("nothing done", x.told(0, 7), 1);
    }

    private static void given() {
        part = "16 given";
        LandReform x = withHomes(0, 10, 20, 30, 40, 50);
        int[] places = {41, 31, 21, 11, 1, 99};
        for (int place : places) {
            x.field(place, 1, 0, 0, 0);
        }
        due("sum", x.given(0, 0, 5, NONE), 5);
        for (int i = 0; i < 5; i++) {
            due("person of " + i, x.given(0, 0, 5, i), 4 - i);
        }
        due("one", x.given(5, 0, 1, NONE), 99);
        due("one", x.given(5, 0, 1, 0), 0);
        due("from others on", x.given(4, 2, 2, 0), 2);
        due("from others on", x.given(4, 2, 2, 1), 3);
        due("from others on", x.given(4, 2, 2, NONE), 19 + 69);
        int[][] bad = {
            {0, 0, 0, NONE}, {0, 0, 6, NONE}, {0, 0, -1, NONE}, {0, 0, 5, 5}, {0, 0, 5, -2}, {2, 0, 5, NONE},
            {0, 2, 5, NONE}, {-1, 0, 2, NONE}, {0, -1, 2, NONE}, {6, 0, 1, NONE}, {0, 6, 1, NONE},
            {HIGH, 0, 1, NONE}, {0, HIGH, 5, NONE}, {0, 0, HIGH, 0}, {0, 0, 2, HIGH}, {LOW, LOW, LOW, LOW}};
        for (int[] b : bad) {
            due("bad", x.given(b[0], b[1], b[2], b[3]), NONE);
        }
        due("at the end", x.given(1, 1, 5, NONE) != NONE, true);
    }

    private static void givenOfEqualOnes() {
        part = "16 given, of several the first";
        LandReform x = withHomes(5, 5, 5);
        for (int i = 0; i < 3; i++) {
            x.field(7, 1, 0, 0, 0);
        }
        for (int i = 0; i < 3; i++) {
            due("alike " + i, x.given(0, 0, 3, i), i);
        }
        LandReform y = withHomes(10, 0);
        y.field(20, 1, 0, 0, 0);
        y.field(30, 1, 0, 0, 0);
        due("either way 40", y.given(0, 0, 2, NONE), 40);
        due("the first", y.given(0, 0, 2, 0), 0);
        LandReform z = withHomes(50, 10, 20);
        z.field(50, 1, 0, 0, 0);
        z.field(90, 1, 0, 0, 0);
        z.field(95, 1, 0, 0, 0);
        due("sum", z.given(0, 0, 3, NONE), 80 + 75);
        due("first", z.given(0, 0, 3, 0), 0);
        due("then", z.given(0, 0, 3, 1), 1);
        due("then", z.given(0, 0, 3, 2), 2);
    }

    private static void rings() {
        part = "17 rings";
        LandReform x = withHomes(10, 20, 30, 40, 50, 60, 70, 80, 90);
        int[] places = {21, 31, 11, 40, 61, 51, 99, 82};
        for (int i = 0; i < 8; i++) {
            x.field(places[i], 1, 0, 0, i);
        }
        x.field(10, 1, 0, 0, 0);
        int[] got = {2, 0, 1, 3, 5, 4, 6, 7};
        due("rings", x.rings(0, 8, NONE), 5);
        for (int i = 0; i < 8; i++) {
            due("field for " + i, x.rings(0, 8, i), got[i]);
        }
        due("two alone", x.rings(3, 2, NONE), 2);
        due("two alone", x.rings(3, 2, 0), 3);
        due("two alone", x.rings(3, 2, 1), 4);
        int[][] bad = {
            {0, 1, NONE}, {0, 9, NONE}, {0, 8, 8}, {0, 8, -2}, {-1, 2, NONE}, {8, 2, NONE}, {1, 8, NONE},
            {7, 2, NONE}, {9, 2, 0}, {HIGH, 8, 0}, {LOW, LOW, LOW}, {0, HIGH, 0}, {0, 2, HIGH}, {0, -1, NONE}};
        for (int[] b : bad) {
            due("bad", x.rings(b[0], b[1], b[2]), NONE);
        }
        due("nothing moved", x.count(3), 0);
        x.transfer(0, 8);
        due("the first owned is another now", x.rings(0, 8, 0), 8);
        // 0 and 1 both want the field of 0, so 1 gets what is left behind it.
        LandReform y = withHomes(50, 51, 90);
        y.field(50, 1, 0, 0, 0);
        y.field(10, 1, 0, 0, 1);
        y.field(60, 1, 0, 0, 2);
        due("rings", y.rings(0, 3, NONE), 3);
        due("0 keeps its own", y.rings(0, 3, 0), 0);
        due("2 keeps the nearest left", y.rings(0, 3, 2), 2);
        due("1 keeps the rest", y.rings(0, 3, 1), 1);
    }

    private static void ringsOfEqualOnes() {
        part = "17 rings, of several the least";
        LandReform x = withHomes(50, 50, 50);
        x.field(40, 1, 0, 0, 2);
        x.field(60, 1, 0, 0, 1);
        x.field(40, 1, 0, 0, 0);
        due("rings", x.rings(0, 3, NONE), 3);
        due("the least wanted by all stays with its owner", x.rings(0, 3, 2), 0);
        due("then", x.rings(0, 3, 1), 1);
        due("then", x.rings(0, 3, 0), 2);
        LandReform y = withHomes(60, 40);
        y.field(50, 1, 0, 0, 1);
        y.field(50, 1, 0, 0, 0);
        due("rings", y.rings(0, 2, NONE), 2);
        due("both want field 0", y.rings(0, 2, 0), 1);
        LandReform z = withHomes(50, 60);
        z.field(40, 1, 0, 0, 1);
        z.field(60, 1, 0, 0, 0);
        due("rings", z.rings(0, 2, NONE), 1);
        due("as near as its own, but less", z.rings(0, 2, 0), 0);
        LandReform w = withHomes(50, 40);
        w.field(60, 1, 0, 0, 0);
        w.field(40, 1, 0, 0, 1);
        due("rings", w.rings(0, 2, NONE), 2);
        due("its own is as near and less", w.rings(0, 2, 0), 0);
        LandReform v = withHomes(51, 60);
        v.field(40, 1, 0, 0, 1);
        v.field(61, 1, 0, 0, 0);
        due("nearer by one", v.rings(0, 2, NONE), 2);
    }

    private static void swap() {
        part = "18 swap";
        LandReform x = withHomes(10, 20, 30, 40);
        x.field(20, 1, 0, 0, 0);
        x.field(30, 1, 0, 0, 1);
        x.field(10, 1, 0, 0, 2);
        x.field(40, 1, 0, 0, 3);
        x.field(10, 1, 0, 0, 0);
        due("bad", x.swap(0, 1), NONE);
        due("bad", x.swap(0, 9), NONE);
        due("bad", x.swap(0, 5), NONE);
        due("bad", x.swap(-1, 2), NONE);
        due("bad", x.swap(LOW, HIGH), NONE);
        due("bad", x.swap(HIGH, 8), NONE);
        due("nothing done", x.count(3), 0);
        x.day(6);
        due("three change", x.swap(0, 4), 3);
        due("transfers", x.count(3), 3);
        int[] owners = {1, 2, 0, 3, 0};
        int[] transfers = {1, 1, 1, 0, 0};
        for (int i = 0; i < 5; i++) {
            due("owner of " + i, x.told(i, 4), owners[i]);
            due("transfers of " + i, x.told(i, 9), transfers[i]);
        }
        due("before today", x.owned(0, 5), 0);
        due("today", x.owned(0, 6), 1);
        due("nothing to change", x.swap(0, 4), 0);
        due("transfers", x.count(3), 3);
        x.person(0, 0);
        due("one without a field", x.swap(3, 2), NONE);
    }

    private static void swapWithoutTransfersLeft() {
        part = "18 swap, transfers left";
        LandReform x = withHomes(10, 20);
        x.field(20, 1, 0, 0, 0);
        x.field(10, 1, 0, 0, 1);
        x.field(50, 1, 0, 0, 0);
        for (int i = 0; i < 198; i++) {
            x.transfer(2, 1 - i % 2);
        }
        due("two left", x.count(3), 198);
        due("rings", x.rings(0, 2, NONE), 1);
        due("two change", x.swap(0, 2), 2);
        due("none left", x.count(3), 200);
        due("nothing changes", x.swap(0, 2), 0);
        LandReform y = withHomes(10, 20);
        y.field(20, 1, 0, 0, 0);
        y.field(10, 1, 0, 0, 1);
        y.field(50, 1, 0, 0, 0);
        for (int i = 0; i < 199; i++) {
            y.transfer(2, 1 - i % 2);
        }
        due("one left", y.swap(0, 2), NONE);
        due("nothing done", y.count(3), 199);
        due("nothing done", y.told(0, 4), 0);
        due("rings all the same", y.rings(0, 2, 0), 1);
    }

    private static void sell() {
        part = "19 sell";
        LandReform x = withPersons(2);
        x.field(0, 33, 1, 0, 0);
        due("field", x.sell(1, 0), NONE);
        due("field", x.sell(-1, 0), NONE);
        due("buyer", x.sell(0, 2), NONE);
        due("buyer", x.sell(0, -1), NONE);
        due("low, high", x.sell(LOW, HIGH), NONE);
        due("none", x.count(5), 0);
        due("first", x.sell(0, 1), 0);
        act(x, "price 3; years 4; soil 1 is 15;");
        due("second", x.sell(0, 1), 1);
        due("by the act of then", x.sale(0, 2), 33);
        due("by the act of now", x.sale(1, 2), 147);
        due("parts of then", x.sale(0, 4), 10);
        due("parts of now", x.sale(1, 4), 4);
        due("no transfer", x.count(3), 0);
        due("owner", x.told(0, 4), 0);
        due("to the owner", x.sell(0, 0), 2);
        for (int i = 3; i < 20; i++) {
            due("next", x.sell(0, 1), i);
        }
        due("the 21st", x.sell(0, 1), NONE);
        due("twenty", x.count(5), 20);
    }

    private static LandReform sold(int area, String act) {
        LandReform x = withPersons(1);
        x.field(0, area, 0, 0, 0);
        act(x, act);
        x.sell(0, 0);
        return x;
    }

    /** The years in their order: a number is what is paid, NONE stands for a failed year. */
    private static void dueYears(LandReform x, int... years) {
        for (int i = 0; i < years.length; i++) {
            boolean good = years[i] != NONE;
            due("year " + i, x.year(0, good), good ? years[i] : 0);
        }
        due("all is paid", x.year(0, true), NONE);
        due("all is paid", x.year(0, false), NONE);
        due("parts left", x.sale(0, 4), 0);
        due("paid", x.sale(0, 3), x.sale(0, 2));
    }

    private static void year() {
        part = "20 year";
        dueYears(sold(43, "years 4;"), 10, 10, 10, 13);
        dueYears(sold(40, "years 4;"), 10, 10, 10, 10);
        dueYears(sold(7, "years 1;"), 7);
        dueYears(sold(3, "years 4;"), 0, 0, 0, 3);
        dueYears(sold(9, "price 5; years 2;"), 22, 23);
        dueYears(sold(9, "price 0; years 2;"), 0, 0);
        LandReform x = sold(43, "years 4;");
        due("none such", x.year(1, true), NONE);
        due("none such", x.year(-1, true), NONE);
        due("none such", x.year(LOW, false), NONE);
        due("none such", x.year(HIGH, false), NONE);
        due("nothing done", x.sale(0, 4), 4);
        LandReform forty = sold(100, "years 40;");
        for (int i = 0; i < 39; i++) {
            due("year " + i, forty.year(0, true), 2);
        }
        due("the rest", forty.year(0, true), 22);
        x.sell(0, 0);
        x.year(1, true);
        due("of another sale", x.sale(0, 3), 0);
    }

    private static void yearPutOff() {
        part = "20 year, put off";
        dueYears(sold(43, "years 4;"), NONE, 10, 10, 13, 10);
        dueYears(sold(43, "years 4;"), 10, 10, 10, NONE, 13);
        dueYears(sold(43, "years 4;"), 10, 10, 10, NONE, NONE, NONE, 13);
        dueYears(sold(43, "years 4;"), 10, NONE, 10, NONE, 10, 13);
        dueYears(sold(43, "years 4;"), NONE, NONE, NONE, NONE, 10, 10, 10, 13);
        dueYears(sold(43, "years 4;"), NONE, NONE, 10, 13, 10, 10);
        dueYears(sold(43, "years 4;"), NONE, NONE, 10, NONE, 10, 10, 13);
        dueYears(sold(43, "years 4;"), NONE, 10, 10, 13, NONE, NONE, 10);
        dueYears(sold(5, "years 1;"), NONE, NONE, 5);
        dueYears(sold(3, "years 4;"), NONE, 0, 0, 3, 0);
    }

    private static void sale() {
        part = "21 sale";
        LandReform x = withPersons(3);
        x.field(0, 10, 0, 0, 0);
        x.field(0, 21, 0, 0, 0);
        act(x, "price 2; years 4;");
        x.sell(1, 2);
        x.sell(0, 1);
        int[] fresh = {1, 2, 42, 0, 4, 0};
        for (int i = 0; i < 6; i++) {
            due("fresh " + i, x.sale(0, i), fresh[i]);
        }
        x.year(0, true);
        x.year(0, false);
        x.year(0, false);
        x.year(0, true);
        x.transfer(1, 1);
        act(x, "price 9;");
        int[] later = {1, 2, 42, 22, 2, 2};
        int[] other = {0, 1, 20, 0, 4, 0};
        for (int i = 0; i < 6; i++) {
            due("later " + i, x.sale(0, i), later[i]);
            due("other " + i, x.sale(1, i), other[i]);
            due("none such", x.sale(2, i), NONE);
            due("none such", x.sale(-1, i), NONE);
        }
        due("what", x.sale(0, 6), NONE);
        due("what", x.sale(0, -1), NONE);
        due("low", x.sale(LOW, LOW), NONE);
        due("high", x.sale(HIGH, HIGH), NONE);
    }

    private static void count() {
        part = "22 count";
        LandReform x = withPersons(5);
        x.day(12);
        x.akin(0, 1);
        x.akin(1, 2);
        for (int i = 0; i < 4; i++) {
            x.field(0, 1, 0, 0, 0);
        }
        x.transfer(0, 1);
        x.transfer(0, 2);
        x.transfer(0, 1);
        act(x, "day 5; price 1; day 5; price 1; day 5; price 1;");
        x.sell(0, 0);
        feedText(x, "x");
        int[] counts = {12, 5, 4, 3, 6, 1, 20, 2};
        for (int i = 0; i < 8; i++) {
            due("count " + i, x.count(i), counts[i]);
        }
        due("what", x.count(8), NONE);
        due("what", x.count(-1), NONE);
        due("low", x.count(LOW), NONE);
        due("high", x.count(HIGH), NONE);
    }
}
