/** Promises 1 to 5: a new object, the TAPE, the text of a LAND and its FAULTS. */
public final class TextTest {
    private static final int NONE = WhiteRoads.NONE;
    private static final Check CHECK = new Check();
    private static final String TWO_YARDS = "yard a road slope 0 traffic 0 warm 0;yard b road slope 0 traffic 0 warm 0;";

    public static void main(String[] args) {
        newObject();
        feed();
        end();
        land();
        landStaysBehindFault();
        goodTexts();
        faultsOfTokens();
        faultsOfPlace();
        faultsOfWhatIsTold();
        faultsOfNumbers();
        faultAnswers();
        CHECK.finish("TextTest");
    }

    private static void due(String what, long got, long due) {
        CHECK.due(what, got, due);
    }

    private static void newObject() {
        WhiteRoads x = new WhiteRoads();
        int[] about = {0, 0, 0, 0, 0, 999, 0, 0, 0, NONE, 0};
        for (int i = 0; i < about.length; i++) {
            due("new: about(" + i + ")", x.about(i), about[i]);
        }
        due("new: fault(0)", x.fault(0), 0);
        due("new: fault(1)", x.fault(1), NONE);
        due("new: yard(0, 0)", x.yard(0, 0), NONE);
        due("new: warm(0, 0)", x.warm(0, 0), WhiteRoads.GAP);
        due("new: left(0)", x.left(0), 0);
        due("new: shift(0)", x.shift(0), 0);
        due("new: run(3)", x.run(3), 3);
    }

    private static void feed() {
        WhiteRoads x = new WhiteRoads();
        // "store 7;" and twelve blanks, each number's highest byte first
        due("feed", x.feed(0x73746f72, 0x6520373b, 0x20202020, 0x20202020, 0x20200a20), 20);
        due("land of it", x.land(), 0);
        due("its store", x.about(5), 7);
        for (int i = 1; i <= 85; i++) {
            due("feed " + i, x.feed(0, -1, Integer.MIN_VALUE, Integer.MAX_VALUE, i), 20 * i);
        }
        due("the 86th feed", x.feed(0, 0, 0, 0, 0), NONE);
        due("nothing came", x.about(8), 1700);
        due("end(1681)", x.end(1681), 1681);
        due("feed behind 1681", x.feed(0, 0, 0, 0, 0), NONE);
        due("nothing came", x.about(8), 1681);
        due("end(1680)", x.end(1680), 1680);
        due("feed behind 1680", x.feed(0, 0, 0, 0, 0), 1700);
    }

    private static void end() {
        WhiteRoads x = new WhiteRoads();
        due("end(0) of nothing", x.end(0), 0);
        due("end(1) of nothing", x.end(1), NONE);
        x.feed(0x73746f72, 0x6520373b, 0x24242424, 0, 0);
        due("end(21)", x.end(21), NONE);
        due("end(-1)", x.end(-1), NONE);
        due("end(least)", x.end(Integer.MIN_VALUE), NONE);
        due("all is there", x.about(8), 20);
        due("end(20)", x.end(20), 20);
        due("end(8)", x.end(8), 8);
        due("end(9)", x.end(9), NONE);
        due("land of the first 8", x.land(), 0);
        due("its store", x.about(5), 7);
        // what was cut off is not read, though a word or number would go on in it
        x.feed(0x73746f72, 0x65203737, 0x3b3b3b3b, 0, 0);
        x.end(7);
        due("cut within the N", x.land(), NONE);
        due("no sign behind 7", x.fault(0), 2);
        due("at the end", x.fault(1), 7);
        x.feed(0x73746f72, 0x65203737, 0x3b3b3b3b, 0, 0);
        x.end(4);
        due("cut within the word", x.land(), NONE);
        due("no such word", x.fault(1), 0);
        x.feed(0x73746f72, 0x65203761, 0x3b3b3b3b, 0, 0);
        x.end(7);
        due("cut behind the N", x.land(), NONE);
        due("no letter behind it", x.fault(1), 7);
        x.feed(0x73746f72, 0x65203720, 0, 0, 0);
        x.end(8);
        x.feed(0x303b2020, 0x20202020, 0x20202020, 0x20202020, 0x20202020);
        due("bytes come behind those", x.land(), NONE);
        due("the store is 7 0", x.fault(1), 8);
    }

    private static void land() {
        WhiteRoads x = new WhiteRoads();
        x.later(4);
        due("land", Check.tell(x, TWO_YARDS + "way a b takes 5;slip 1 weight 1;hour fall 9 temp -50 wet 0;depot b;store 50;"), 2);
        due("the TAPE is empty", x.about(8), 0);
        due("ways", x.about(1), 1);
        due("hours", x.about(2), 1);
        due("slips", x.about(3), 1);
        due("depot", x.about(9), 1);
        due("store", x.about(5), 50);
        x.shift(7);
        x.run(5);
        x.spread(0, 20);
        x.read(0, 0, 0, 99, 0);
        for (int box = 0; box < 3; box++) {
            x.image(box);
        }
        x.round(3, 5, 0);
        due("order", x.about(10), 2);
        due("left by the GLASS", x.left(9), 0);
        due("next land", Check.tell(x, TWO_YARDS + "slip 1 weight 1;"), 2);
        due("no STEP", x.about(4), 0);
        due("SHIFT 0", x.shift(0), 0);
        due("store untold", x.about(5), 999);
        due("no GLASSES", x.about(6), 0);
        due("left", x.left(9), 1);
        for (int box = 0; box < 3; box++) {
            due("no BOX", x.back(box), NONE);
        }
        due("no order", x.about(10), 0);
        due("no order", x.lies(0), NONE);
        due("TIME stays", x.about(7), 4);
        due("no depot", x.about(9), NONE);
        due("no hours", x.about(2), 0);
        due("no SALT", x.yard(0, 3), 0);
        due("no SNOW", x.yard(0, 1), 0);
        due("warm", x.warm(0, 0), 0);
        Check.tell(x, TWO_YARDS + "call 5;harm 7;slip 0 weight 1;");
        Check.tell(x, "yard a road slope 0 traffic 0 warm -10;hour fall 9 temp -10 wet 0;slip 0 weight 1;");
        due("call and harm are 0 again: the STEP", x.plan(1, 0, 0, 4), 0);
        due("call and harm are 0 again: the cost", x.plan(1, 0, 1, 4), 0);
        due("an empty LAND", x.land(), 0);
        due("yards", x.about(0), 0);
    }

    private static void landStaysBehindFault() {
        WhiteRoads x = Check.told(TWO_YARDS + "way a b takes 5;slip 1 weight 1;hour fall 9 temp -50 wet 0;depot b;store 50;");
        x.shift(7);
        x.run(5);
        x.spread(0, 20);
        x.read(0, 0, 0, 99, 0);
        x.image(1);
        x.round(3, 5, 0);
        int snow = x.yard(0, 1);
        int warm = x.warm(0, 0);
        due("a FAULT", Check.tell(x, "yard q roof slope 9 traffic 9 warm 9;store 1;slip 5 weight 5;hour"), NONE);
        due("the TAPE is empty", x.about(8), 0);
        int[] about = {2, 1, 1, 1, 5, 30, 1, 0, 0, 1, 2};
        for (int i = 0; i < about.length; i++) {
            due("behind a FAULT: about(" + i + ")", x.about(i), about[i]);
        }
        due("SNOW stays", x.yard(0, 1), snow);
        due("SALT stays", x.yard(0, 3), 20);
        due("warmth stays", x.warm(0, 0), warm);
        due("the GLASS stays", x.left(0), 0);
        due("the order stays", x.lies(1), 0);
        due("SHIFT stays", x.shift(7), 7);
        due("the BOX stays", x.back(1), 5);
        due("it goes on as before", x.run(1), 6);
        due("by the same sky", x.yard(0, 1), snow + 9);
    }

    private static void good(String text, int yards) {
        WhiteRoads x = new WhiteRoads();
        due("land of '" + text + "'", Check.tell(x, text), yards);
        due("fault of '" + text + "'", x.fault(0), 0);
        due("place of '" + text + "'", x.fault(1), NONE);
    }

    private static void goodTexts() {
        good("", 0);
        good(" \n ", 0);
        good("yard a grass slope 99 traffic 99 warm -200 200-0 - 5 0007;", 1);
        good("yard abcdefgh roof slope0 traffic0 warm0;", 1);
        good("yard a road slope 0 traffic 0 warm 0 -200 200 - 200 200;", 1);
        good("yard line bridge slope 0 traffic 0 warm 1;yard land road slope 0 traffic 0 warm 1;"
            + "yard sort road slope 0 traffic 0 warm 1;way sort land takes 60;", 3);
        good("slip 50 weight 99;slip -50 weight 1;slip - 5 weight 2;slip 5 weight 2;call 9999;harm 0;store 0;", 0);
        good("hour\nfall99 temp-200 wet10;hour fall 0 temp 200 wet 0;", 0);
        StringBuilder full = new StringBuilder();
        for (int i = 0; i < 8; i++) {
            full.append("yard ").append((char) ('a' + i)).append(" road slope 0 traffic 0 warm 0;");
        }
        for (int i = 0; i < 16; i++) {
            full.append("way ").append((char) ('a' + i % 8)).append(' ').append((char) ('a' + (i + 1 + i / 8) % 8)).append(" takes 1;");
        }
        for (int i = 0; i < 12; i++) {
            full.append("hour fall 0 temp 0 wet 0;");
        }
        for (int i = 0; i < 7; i++) {
            full.append("slip ").append(i).append(" weight 1;");
        }
        good(full + "call 1;harm 1;depot h;store 1;", 8);
        fault(full + "yard i", 2, full.length());
        fault(full + "way a d", 2, full.length());
        fault(full + " hour", 2, full.length() + 1);
        fault(full + "slip 9", 2, full.length());
        String blanks = " ".repeat(1700 - full.length());
        good(full + blanks, 8);
    }

    private static void fault(String text, int number, int place) {
        WhiteRoads x = new WhiteRoads();
        due("land of '" + text + "'", Check.tell(x, text), NONE);
        due("fault of '" + text + "'", x.fault(0), number);
        due("place of '" + text + "'", x.fault(1), place);
    }

    private static void faultsOfTokens() {
        for (int c = 0; c < 256; c++) {
            boolean blank = c == 32 || c == 10;
            boolean token = c == ';' || c == '-' || c >= 'a' && c <= 'z' || c >= '0' && c <= '9';
            if (!blank) {
                fault("  " + (char) c, token ? 2 : 1, 2);
            }
        }
        fault("store 1;Store 1;", 1, 8);
        fault("store\t1;", 1, 5);
        fault("store 1\r;", 1, 7);
        fault("yard abcdefghi road", 1, 5);
        fault("abcdefghi", 1, 0);
        fault("abcdefgh", 2, 0);
        fault("store 12345;", 1, 6);
        fault("store 00001;", 1, 6);
        fault("yard a road slope 5traffic 5", 1, 18);
        fault("yard a road slope 555traffic 5", 1, 18);
        fault("hour fall 1 temp -5wet 1;", 1, 18);
        fault("hour fall 1 temp -$", 1, 18);
        fault("yard a road slope 0 traffic 0 warm 1 1 1 1 1 12345", 1, 45);
    }

    private static void faultsOfPlace() {
        fault(";", 2, 0);
        fault("5", 2, 0);
        fault("slope", 2, 0);
        fault("snow", 2, 0);
        fault("store", 2, 5);
        fault("store ", 2, 6);
        fault("store \n ", 2, 8);
        fault("store -1;", 2, 6);
        fault("store 1", 2, 7);
        fault("store 1 2;", 2, 8);
        fault("store 1;;", 2, 8);
        for (String word : "yard slope traffic warm way takes hour fall temp wet slip weight call harm depot store grass road bridge roof".split(" ")) {
            fault("yard " + word, 2, 5);
            fault(TWO_YARDS + "way a " + word, 2, TWO_YARDS.length() + 6);
            fault(TWO_YARDS + "way " + word, 2, TWO_YARDS.length() + 4);
            fault("depot " + word, 2, 6);
        }
        fault("yard a lane", 2, 7);
        fault("yard a slope 0", 2, 7);
        fault("yard a store", 2, 7);
        fault("yard a traffic 0", 2, 7);
        fault("yard a road traffic 0", 2, 12);
        fault("yard a road slope -0", 2, 18);
        fault("yard a road slope 0 warm", 2, 20);
        fault("yard a road slope 0 traffic 0 slope", 2, 30);
        fault("yard a road slope 0 traffic 0 warm;", 2, 34);
        fault("yard a road slope 0 traffic 0 warm 1 -;", 2, 38);
        fault("yard a road slope 0 traffic 0 warm --1;", 2, 36);
        fault("yard a road slope 0 traffic 0 warm 1 1 1 1 1 1;", 2, 45);
        fault("yard a road slope 0 traffic 0 warm 1 1 1 1 1 -999;", 2, 45);
        fault("call 1; call", 2, 8);
        fault("harm 1; harm", 2, 8);
        fault("store 1; store 2;", 2, 9);
        fault(TWO_YARDS + "depot a;depot", 2, TWO_YARDS.length() + 8);
        fault("hour temp 1", 2, 5);
        fault("hour fall 1 wet", 2, 12);
        fault("hour fall 1 temp 1;", 2, 18);
        fault("slip 1;", 2, 6);
        fault("slip weight", 2, 5);
    }

    private static void faultsOfWhatIsTold() {
        int n = TWO_YARDS.length();
        fault(TWO_YARDS + "yard a", 3, n + 5);
        fault(TWO_YARDS + "way a a", 3, n + 6);
        fault(TWO_YARDS + "way a b takes 1;way a b", 3, n + 22);
        fault(TWO_YARDS + "way a b takes 1;way b a", 3, n + 22);
        fault(TWO_YARDS + "way c c", 5, n + 4);
        fault(TWO_YARDS + "way a c", 5, n + 6);
        fault(TWO_YARDS + "way ab a", 5, n + 4);
        fault(TWO_YARDS + "depot ba;", 5, n + 6);
        fault("depot a;" + TWO_YARDS, 5, 6);
        fault("slip 5 weight 1;slip 5#", 3, 21);
        fault("slip -5 weight 1;slip - 5", 3, 22);
        fault("slip 0 weight 1;slip -0", 3, 21);
        fault("slip 5 weight 1;slip 05", 3, 21);
    }

    private static void faultsOfNumbers() {
        fault("yard a road slope 100 traffic 0", 4, 18);
        fault("yard a road slope 0 traffic 100", 4, 28);
        fault("yard a road slope 0 traffic 0 warm 201", 4, 35);
        fault("yard a road slope 0 traffic 0 warm -201", 4, 35);
        fault("yard a road slope 0 traffic 0 warm 5 - 201", 4, 37);
        fault("yard a road slope 0 traffic 0 warm 5 201", 4, 37);
        fault("yard a road slope 0 traffic 0 warm 5 5 5 5 9999 5", 4, 43);
        fault(TWO_YARDS + "way a b takes 0", 4, TWO_YARDS.length() + 14);
        fault(TWO_YARDS + "way a b takes 61", 4, TWO_YARDS.length() + 14);
        fault("hour fall 100", 4, 10);
        fault("hour fall 0 temp 201", 4, 17);
        fault("hour fall 0 temp - 201", 4, 17);
        fault("hour fall 0 temp 0 wet 11", 4, 23);
        fault("slip 51", 4, 5);
        fault("slip -51 weight 1;", 4, 5);
        fault("slip 0 weight 0", 4, 14);
        fault("slip 0 weight 100", 4, 14);
    }

    private static void faultAnswers() {
        WhiteRoads x = new WhiteRoads();
        Check.tell(x, " $");
        due("fault(0)", x.fault(0), 1);
        due("fault(1)", x.fault(1), 1);
        due("fault(2)", x.fault(2), NONE);
        due("fault(-1)", x.fault(-1), NONE);
        x.run(1);
        due("of the latest land", x.fault(0), 1);
        x.land();
        due("fault(0)", x.fault(0), 0);
        due("fault(1)", x.fault(1), NONE);
    }
}
