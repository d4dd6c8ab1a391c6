/** Promises 17 to 19: the gritter's order, and the car. */
public final class WaysTest {
    private static final int NONE = WhiteRoads.NONE;
    private static final Check CHECK = new Check();

    public static void main(String[] args) {
        order();
        fewestWhite();
        leastMinutesThenFirst();
        byWaysThatTakeLeast();
        noOrder();
        sevenAndEight();
        stepOfSalt();
        open();
        openToAndFro();
        openWithinTwelveHours();
        CHECK.finish("WaysTest");
    }

    private static void due(String what, long got, long due) {
        CHECK.due(what, got, due);
    }

    private static String road(String name, int slope, int warm) {
        return "yard " + name + " road slope " + slope + " traffic 0 warm " + warm + ";";
    }

    private static final String SHORT_FALL = "hour fall 2 temp -10 wet 0;hour fall 0 temp -10 wet 0;";

    private static void lies(WhiteRoads x, int... order) {
        due("about(10)", x.about(10), order.length);
        for (int i = 0; i < order.length; i++) {
            due("lies(" + i + ")", x.lies(i), order[i]);
        }
        due("lies behind the last", x.lies(order.length), NONE);
        due("lies(-1)", x.lies(-1), NONE);
        due("lies(most)", x.lies(Integer.MAX_VALUE), NONE);
    }

    private static void order() {
        WhiteRoads x = Check.told(road("a", 0, 0) + road("b", 0, 0) + road("c", 0, 0) + "way a b takes 5;way b c takes 7;depot a;");
        due("none WHITE", x.round(6, 5, 0), 0);
        lies(x, 1, 2);
        due("minutes", x.round(6, 5, 1), 12);
        due("the depot too", x.round(7, 5, 1), 12);
        lies(x, 0, 1, 2);
        due("the depot alone", x.round(1, 5, 1), 0);
        lies(x, 0);
        due("the farthest alone", x.round(4, 5, 1), 12);
        lies(x, 2);
        due("none to salt", x.round(0, 5, 0), 0);
        lies(x);
        due("none to salt", x.round(0, 5, 1), 0);
        x.round(6, 5, 0);
        x.run(3);
        lies(x, 1, 2);
        x.image(0);
        x.back(0);
        lies(x, 1, 2);
    }

    private static void fewestWhite() {
        // far must be salted by STEP 3, near needs none: though it takes longer, far comes first
        WhiteRoads x = Check.told(road("d", 0, 60) + road("near", 0, 60) + road("far", 0, -10)
            + "way d near takes 10;way d far takes 30;depot d;" + SHORT_FALL);
        due("how late far can wait", x.latest(2, 0, 30), 3);
        due("none is WHITE", x.round(6, 30, 0), 0);
        lies(x, 2, 1);
        due("in 30 and 40 minutes", x.round(6, 30, 1), 70);
        due("too little SALT", x.round(6, 20, 0), 1);
        lies(x, 1, 2);
        due("in 10 and 40 minutes", x.round(6, 20, 1), 50);
        x.run(1);
        due("too late for far", x.round(6, 30, 0), 1);
        lies(x, 1, 2);
        x.shift(50);
        due("by SHIFT 0", x.round(6, 30, 0), 1);
        x = Check.told(road("a", 0, -10) + "depot a;" + SHORT_FALL.replace("-10", "8"));
        due("a tenth more would do", x.when(0, 1), NONE);
        due("by SHIFT 0", x.round(1, 0, 0), 1);
    }

    private static void leastMinutesThenFirst() {
        WhiteRoads x = Check.told(road("d", 0, 0) + road("a", 0, 0) + road("b", 0, 0) + road("c", 0, 0)
            + "way d a takes 9;way d b takes 5;way d c takes 5;depot d;");
        due("the nearer ones first", x.round(14, 5, 1), 5 + 10 + 14);
        lies(x, 2, 3, 1);
        x = Check.told(road("d", 0, 0) + road("a", 0, 0) + road("b", 0, 0) + "way d a takes 5;way d b takes 5;depot d;");
        due("either", x.round(6, 5, 1), 15);
        lies(x, 1, 2);
        x = Check.told(road("d", 0, 0) + road("a", 0, 0) + road("b", 0, 0) + "way d a takes 5;way d b takes 4;depot d;");
        due("the nearer one", x.round(6, 5, 1), 13);
        lies(x, 2, 1);
    }

    private static void byWaysThatTakeLeast() {
        WhiteRoads x = Check.told(road("a", 0, 0) + road("b", 0, 0) + road("c", 0, 0) + road("d", 0, 0)
            + "way a d takes 60;way c d takes 7;way b a takes 5;way c b takes 6;depot a;");
        due("round about", x.round(8, 5, 1), 18);
        due("and back", x.round(9, 5, 1), 18);
        lies(x, 0, 3);
        x = Check.told(road("a", 0, 0) + road("b", 0, 0) + road("c", 0, 0) + "way a b takes 60;way a c takes 30;way b c takes 30;depot a;");
        due("as long", x.round(2, 5, 1), 60);
    }

    private static void none(String what, WhiteRoads x, int yards, int salt, int asked) {
        x.round(1, 5, 0);
        due(what, x.round(yards, salt, asked), NONE);
        lies(x);
    }

    private static void noOrder() {
        WhiteRoads x = Check.told(road("a", 0, 0) + road("b", 0, 0) + road("c", 0, 0) + "way a b takes 5;depot a;");
        due("one that can be come to", x.round(2, 5, 0), 0);
        none("one that can't be come to", x, 4, 5, 0);
        none("one of them can't be come to", x, 7, 5, 1);
        none("no such YARD", x, 8, 5, 0);
        none("no such set", x, -1, 5, 0);
        none("SALT 100", x, 1, 100, 0);
        none("SALT -1", x, 1, -1, 0);
        none("what 2", x, 1, 5, 2);
        none("what -1", x, 1, 5, -1);
        due("SALT 0", x.round(1, 0, 0), 0);
        due("SALT 99", x.round(1, 99, 0), 0);
        x = Check.told(road("a", 0, 0));
        none("no depot", x, 1, 5, 0);
        none("no depot, no YARDS", x, 0, 5, 0);
    }

    private static void sevenAndEight() {
        StringBuilder text = new StringBuilder();
        for (int i = 0; i < 8; i++) {
            text.append(road("" + (char) ('a' + i), 0, 0));
        }
        for (int i = 7; i > 0; i--) {
            text.append("way ").append((char) ('a' + i)).append(' ').append((char) ('a' + i - 1)).append(" takes 60;");
        }
        WhiteRoads x = Check.told(text + "depot h;");
        due("seven", x.round(127, 5, 1), 420);
        lies(x, 6, 5, 4, 3, 2, 1, 0);
        due("seven others", x.round(254, 5, 1), 360);
        lies(x, 7, 6, 5, 4, 3, 2, 1);
        none("eight", x, 255, 5, 0);
    }

    private static void stepOfSalt() {
        // 29 minutes are STEP 2 yet, 30 are STEP 3
        for (int takes = 19; takes <= 40; takes++) {
            WhiteRoads x = Check.told(road("d", 0, 60) + road("a", 0, -10) + "way d a takes " + takes + ";depot d;" + SHORT_FALL);
            due("SALT 28 behind " + takes + " minutes", x.round(2, 28, 0), takes < 30 ? 0 : 1);
        }
        // WHITE at the last STEP, and the last one is come to behind 780 minutes: salted behind STEP 71 all the same
        StringBuilder star = new StringBuilder(road("a", 0, -10));
        for (char c = 'b'; c <= 'h'; c++) {
            star.append(road("" + c, 0, -10)).append("way a ").append(c).append(" takes 60;");
        }
        star.append("depot a;").append("hour fall 0 temp -10 wet 0;".repeat(11)).append("hour fall 1 temp -10 wet 0;");
        WhiteRoads x = Check.told(star.toString());
        x.run(4);
        due("WHITE at the last STEP", x.when(7, 0), 72);
        due("salted in time", x.round(254, 99, 0), 0);
        due("minutes", x.round(254, 99, 1), 780);
        // 23 would do behind STEP 70, not behind STEP 71
        due("how late 23 can be", x.latest(7, 0, 23), 70);
        due("salted behind STEP 71", x.round(254, 23, 0), 1);
    }

    private static void open() {
        WhiteRoads x = Check.told(road("a", 0, 0) + road("b", 0, 0) + road("c", 0, 0) + road("d", 0, 0)
            + "way a b takes 20;way b c takes 15;way c a takes 60;");
        due("there", x.open(0, 1, 0), 20);
        due("and back", x.open(1, 0, 0), 20);
        due("round about", x.open(0, 2, 71), 35);
        due("to itself", x.open(3, 3, 71), 0);
        due("no way", x.open(0, 3, 0), NONE);
        due("no way", x.open(3, 0, 0), NONE);
        due("STEP 72", x.open(0, 1, 72), NONE);
        due("STEP -1", x.open(0, 1, -1), NONE);
        due("no such YARD", x.open(4, 1, 0), NONE);
        due("no such YARD", x.open(0, 4, 0), NONE);
        due("no such YARD", x.open(-1, 1, 0), NONE);
        due("no such YARD", x.open(0, -1, 0), NONE);
    }

    private static final String HILL = "yard hill grass slope 99 traffic 0 warm -10;" + road("a", 0, 0) + road("b", 0, 0)
        + "way a hill takes 10;hour fall 2 temp -10 wet 0;hour fall 0 temp 100 wet 0;";

    private static void openToAndFro() {
        // the hill is BLOCKED behind STEP 6 alone
        WhiteRoads x = Check.told(HILL);
        due("by 10 of SNOW", x.open(1, 0, 4), 10);
        due("BLOCKED on arrival, and nowhere to turn", x.open(1, 0, 5), NONE);
        due("free again", x.open(1, 0, 6), 10);
        due("BLOCKED at the beginning", x.open(0, 1, 6), NONE);
        due("to itself", x.open(0, 0, 5), 0);
        due("to itself, BLOCKED", x.open(0, 0, 6), NONE);
        due("off in time", x.open(0, 1, 5), 10);
        x.run(3);
        due("from now", x.open(1, 0, 2), NONE);
        x = Check.told(HILL + "way a b takes 7;");
        due("to b and back first", x.open(1, 0, 5), 24);
        x = Check.told(HILL + "way a b takes 60;");
        due("a long way to b and back", x.open(1, 0, 5), 130);
        x = Check.told(HILL + "way b hill takes 5;");
        due("past the hill by STEP 5", x.open(1, 2, 4), 15);
        due("not past it at STEP 6", x.open(1, 2, 5), NONE);
        due("SHIFT 0", x.shift(50), 0);
        due("not by the SHIFT in earnest", x.open(1, 0, 5), NONE);
    }

    private static void openWithinTwelveHours() {
        // the hill is BLOCKED till STEP 71, and free behind STEP 72
        String cold = "hour fall 0 temp -50 wet 0;".repeat(10);
        String text = road("hill", 99, -50) + road("a", 0, 0) + road("b", 0, 0) + road("c", 0, 0) + "way a hill takes 60;"
            + "hour fall 20 temp -50 wet 0;" + cold + "hour fall 0 temp 175 wet 0;";
        WhiteRoads x = Check.told(text + "way a b takes 60;");
        due("at 660 minutes not yet, 780 are too many", x.open(1, 0, 0), NONE);
        due("from STEP 1 on: 780 are too many", x.open(1, 0, 1), NONE);
        due("from STEP 6 on: 660", x.open(1, 0, 6), 660);
        x = Check.told(text + "way a b takes 60;way a c takes 30;");
        due("at 720 minutes", x.open(1, 0, 0), 720);
        due("from STEP 71 on", x.open(1, 0, 71), 60);
        x = Check.told(text.replace("hill takes 60", "hill takes 1") + "way a b takes 60;");
        x.run(6);
        due("721 minutes are too many", x.open(1, 0, 0), NONE);
        due("601 minutes", x.open(1, 0, 12), 601);
        x = Check.told(text + "way a b takes 60;");
        due("far behind STEP 72", x.open(2, 0, 71), 120);
    }
}
