/** Promises 20 to 27: GLASSES in two times, BOXES, and about. */
public final class GlassTest {
    private static final int NONE = WhiteRoads.NONE;
    private static final Check CHECK = new Check();
    /** Behind STEP 1 the grass is at 0 by SLIPS 0 and 1, at 5 by 10, at -5 by -10. */
    private static final String GRASS = "yard a grass slope 0 traffic 0 warm 0;";
    private static final String SLIPS = "slip 0 weight 1;slip 1 weight 1;slip 10 weight 1;slip -10 weight 1;";

    public static void main(String[] args) {
        read();
        wrongRead();
        giveOrTake();
        twoTimes();
        thirtyGlasses();
        later();
        fromTheBeginning();
        tells();
        tellsOfThoseLeft();
        wrongTells();
        images();
        imageOfEight();
        about();
        CHECK.finish("GlassTest");
    }

    private static void due(String what, long got, long due) {
        CHECK.due(what, got, due);
    }

    private static void due(String what, boolean got, boolean due) {
        CHECK.due(what, got, due);
    }

    private static void read() {
        WhiteRoads x = Check.told(GRASS + SLIPS);
        due("all are LEFT", x.left(0), 15);
        due("read", x.read(0, 0, 1, 5, 5), 0);
        due("0, 1 and 10 are LEFT", x.left(0), 7);
        due("read", x.read(0, 0, 1, -2, 2), 1);
        due("0 and 1 are LEFT", x.left(0), 3);
        due("read", x.read(0, 0, 0, 0, 0), 2);
        due("STEP 0 tells nothing", x.left(0), 3);
        due("read", x.read(0, 0, 0, 1, 0), 3);
        due("none is LEFT", x.left(0), 0);
        due("GLASSES", x.about(6), 4);
        x = Check.told(GRASS);
        due("read without SLIPS", x.read(0, 0, 0, 0, 0), 0);
        due("no SLIPS", x.left(0), 0);
    }

    private static void wrongRead() {
        WhiteRoads x = Check.told("yard a road slope 0 traffic 0 warm 0 0;" + SLIPS);
        int[][] wrong = {{1, 0, 0, 0, 0}, {-1, 0, 0, 0, 0}, {0, 2, 0, 0, 0}, {0, -1, 0, 0, 0}, {0, 0, 73, 0, 0},
            {0, 0, -1, 0, 0}, {0, 0, 0, 1000, 0}, {0, 0, 0, -1000, 0}, {0, 0, 0, 0, 100}, {0, 0, 0, 0, -1},
            {Integer.MAX_VALUE, 0, 0, 0, 0}, {0, Integer.MIN_VALUE, 0, 0, 0}, {0, 0, Integer.MAX_VALUE, 0, 0},
            {0, 0, 0, Integer.MIN_VALUE, 0}, {0, 0, 0, 0, Integer.MAX_VALUE}};
        for (int[] w : wrong) {
            due("read " + java.util.Arrays.toString(w), x.read(w[0], w[1], w[2], w[3], w[4]), NONE);
        }
        due("nothing was READ", x.about(6), 0);
        due("nothing was READ", x.left(0), 15);
        due("the edges", x.read(0, 1, 72, 999, 99), 0);
        due("the edges", x.read(0, 0, 0, -999, 0), 1);
        due("untell(2)", x.untell(2), false);
        due("untell(-1)", x.untell(-1), false);
        due("untell(most)", x.untell(Integer.MAX_VALUE), false);
    }

    private static void giveOrTake() {
        int[][] rows = {{2, 1, 0}, {2, 2, 3}, {2, 3, 7}, {3, 2, 4}, {3, 3, 7}, {3, 7, 7}, {3, 8, 15}, {-4, 1, 8}, {-6, 0, 0}, {-5, 0, 8}};
        for (int[] row : rows) {
            WhiteRoads x = Check.told(GRASS + SLIPS);
            x.read(0, 0, 1, row[0], row[1]);
            due(row[0] + " give or take " + row[1], x.left(0), row[2]);
        }
    }

    private static void twoTimes() {
        WhiteRoads x = Check.told(GRASS + SLIPS);
        x.later(2);
        x.read(0, 0, 1, 0, 0);
        x.later(1);
        x.read(0, 0, 1, 5, 0);
        x.later(2);
        due("untell", x.untell(0), true);
        due("untell again", x.untell(0), false);
        x.later(1);
        due("untell later", x.untell(0), false);
        int[] left = {15, 15, 3, 0, 0, 4, 4, 4};
        for (int k = 0; k < left.length; k++) {
            due("left(" + k + ")", x.left(k), left[k]);
        }
        due("before all", x.left(Integer.MIN_VALUE), 15);
        due("left(-1)", x.left(-1), 15);
        due("behind all", x.left(Integer.MAX_VALUE), 4);
        x.read(0, 0, 1, 99, 0);
        due("none is LEFT", x.left(6), 0);
        due("untell at the same TIME", x.untell(2), true);
        due("as if never READ", x.left(6), 4);
        due("before", x.left(5), 4);
    }

    private static void thirtyGlasses() {
        WhiteRoads x = Check.told(GRASS + SLIPS);
        for (int i = 0; i < 30; i++) {
            due("read", x.read(0, 0, 1, 0, 99), i);
        }
        due("the 31st", x.read(0, 0, 1, 0, 99), NONE);
        due("untell", x.untell(29), true);
        due("still the 31st", x.read(0, 0, 1, 50, 0), NONE);
        due("nothing was READ", x.left(0), 15);
        due("GLASSES", x.about(6), 30);
        due("untell(30)", x.untell(30), false);
    }

    private static void later() {
        WhiteRoads x = new WhiteRoads();
        due("later(0)", x.later(0), 0);
        due("later(1001)", x.later(1001), NONE);
        due("later(-1)", x.later(-1), NONE);
        due("the TIME", x.about(7), 0);
        for (int i = 1; i <= 99; i++) {
            x.later(1000);
        }
        due("later(999)", x.later(999), 99999);
        due("later(2)", x.later(2), NONE);
        due("the TIME", x.about(7), 99999);
        due("later(1)", x.later(1), 100000);
        due("later(1)", x.later(1), NONE);
        due("later(0)", x.later(0), 100000);
    }

    private static void fromTheBeginning() {
        WhiteRoads x = Check.told("yard a grass slope 0 traffic 0 warm 0;hour fall 9 temp 0 wet 0;" + SLIPS);
        x.shift(44);
        x.spread(0, 99);
        x.run(20);
        x.read(0, 0, 1, 1, 0);
        // 5 by SLIP 10: 2 of SNOW melt, and 1 is left
        due("as if from the beginning, without SALT", x.left(0), 4);
        due("tells: three are at 0, or -5", x.tells(1, 2, 0), 1);
        x.untell(0);
        due("tells: two are at 0", x.tells(1, 2, 0), 2);
    }

    private static void told(String what, WhiteRoads x, int step, int k, int... due) {
        for (int i = 0; i < 3; i++) {
            due(what + ": tells(" + step + ", " + i + ", " + k + ")", x.tells(step, i, k), due[i]);
        }
    }

    private static void tells() {
        // b is at 2 by SLIP 0, 3 by 1, 7 by 10, -3 by -10 behind STEP 1
        String text = GRASS + "yard b grass slope 0 traffic 0 warm 4;yard c grass slope 0 traffic 0 warm 4;" + SLIPS;
        WhiteRoads x = Check.told(text);
        told("the first of like ones", x, 1, 0, 1, 0, 1);
        told("STEP 0 tells nothing", x, 0, 0, 0, 0, 4);
        // a bridge whose top is at 1 by all three, and whose last LAYER is at 3, 3, 4
        x = Check.told("yard a bridge slope 0 traffic 0 warm 0 5;slip 0 weight 1;slip 1 weight 1;slip 2 weight 1;");
        told("by LAYER", x, 1, 0, 0, 1, 2);
        x = Check.told("yard a bridge slope 0 traffic 0 warm 0;yard b bridge slope 0 traffic 0 warm 0 5;"
            + "slip 0 weight 1;slip 1 weight 1;slip 2 weight 1;");
        told("by YARD and LAYER", x, 1, 0, 1, 1, 2);
        x = Check.told(GRASS + "slip 7 weight 9;");
        told("one SLIP", x, 72, 0, 0, 0, 1);
    }

    private static void tellsOfThoseLeft() {
        WhiteRoads x = Check.told(GRASS + "yard b grass slope 0 traffic 0 warm 4;" + SLIPS);
        x.later(3);
        x.read(0, 0, 1, 0, 9);
        told("all are LEFT", x, 1, 3, 1, 0, 1);
        x.read(1, 0, 1, 0, 3);
        // SLIP 10 is gone; 0, 1 and -10 are not told apart by a
        told("three are LEFT", x, 1, 3, 1, 0, 1);
        x.read(1, 0, 1, 0, 2);
        told("SLIP 0 is LEFT", x, 1, 3, 0, 0, 1);
        told("SLIP 0 is LEFT", x, 0, 3, 0, 0, 1);
        told("as known before", x, 0, 2, 0, 0, 4);
        x.read(1, 0, 1, 99, 2);
        told("none is LEFT", x, 1, 3, NONE, NONE, NONE);
    }

    private static void wrongTells() {
        WhiteRoads x = Check.told(GRASS + SLIPS);
        due("tells(73, 0, 0)", x.tells(73, 0, 0), NONE);
        due("tells(-1, 0, 0)", x.tells(-1, 0, 0), NONE);
        due("tells(0, 3, 0)", x.tells(0, 3, 0), NONE);
        due("tells(0, -1, 0)", x.tells(0, -1, 0), NONE);
        due("tells(72, 0, 0)", x.tells(72, 0, 0), 0);
        told("without YARDS", Check.told(SLIPS), 0, 0, NONE, NONE, NONE);
        told("without SLIPS", Check.told(GRASS), 0, 0, NONE, NONE, NONE);
    }

    private static void images() {
        WhiteRoads x = Check.told("yard a road slope 0 traffic 0 warm -9 -50;hour fall 3 temp -30 wet 4;hour fall 0 temp 90 wet 0;depot a;" + SLIPS);
        due("back(0) of nothing", x.back(0), NONE);
        due("image(0)", x.image(0), 0);
        x.shift(9);
        x.run(4);
        x.spread(0, 50);
        due("image(2)", x.image(2), 4);
        int[] has = has(x);
        due("there is ICE", has[2] > 0, true);
        x.shift(-3);
        x.run(30);
        x.spread(0, 90);
        x.read(0, 0, 1, 0, 0);
        x.later(8);
        x.round(1, 5, 0);
        x.feed(0, 0, 0, 0, 0);
        due("back(2)", x.back(2), 4);
        same("back(2)", has, has(x));
        due("the store", x.about(5), 949);
        due("GLASSES stay", x.about(6), 1);
        due("the TIME stays", x.about(7), 8);
        due("the TAPE stays", x.about(8), 20);
        due("the order stays", x.about(10), 1);
        due("the SHIFT", x.shift(9), 9);
        x.run(5);
        int[] gone = has(x);
        due("back(2) again", x.back(2), 4);
        same("back(2) again", has, has(x));
        x.run(5);
        same("gone on from", gone, has(x));
        due("back(0)", x.back(0), 0);
        due("the SHIFT", x.shift(0), 0);
        due("warm", x.warm(0, 0), -9);
        due("SNOW", x.yard(0, 1), 0);
        due("the store", x.about(5), 999);
        x.run(7);
        due("image(2) anew", x.image(2), 7);
        x.back(0);
        due("back(2)", x.back(2), 7);
        due("image(3)", x.image(3), NONE);
        due("image(-1)", x.image(-1), NONE);
        due("image(1)", x.image(1), 7);
        due("back(3)", x.back(3), NONE);
        due("back(-1)", x.back(-1), NONE);
        due("back(least)", x.back(Integer.MIN_VALUE), NONE);
        due("all stays", x.about(4), 7);
    }

    /** With as many YARDS as can be, each with SALT of its own. */
    private static void imageOfEight() {
        StringBuilder text = new StringBuilder();
        for (int i = 0; i < 8; i++) {
            text.append("yard ").append((char) ('a' + i)).append(" road slope 0 traffic 0 warm 1 2 3 4 ").append(i).append(";");
        }
        WhiteRoads x = Check.told(text.toString());
        for (int i = 0; i < 8; i++) {
            x.spread(i, 20 + i);
        }
        for (int box = 0; box < 3; box++) {
            x.spread(7, 1);
            x.image(box);
        }
        x.run(9);
        for (int box = 0; box < 3; box++) {
            for (int i = 0; i < 8; i++) {
                x.spread(i, 3);
            }
            due("back", x.back(box), 0);
            for (int i = 0; i < 8; i++) {
                due("SALT of " + i, x.yard(i, 3), i == 7 ? 28 + box : 20 + i);
                due("the last LAYER of " + i, x.warm(i, 4), i);
            }
            due("the store", x.about(5), 999 - 188 - box - 1);
        }
    }

    private static int[] has(WhiteRoads x) {
        return new int[] {x.yard(0, 0), x.yard(0, 1), x.yard(0, 2), x.yard(0, 3), x.warm(0, 0), x.warm(0, 1), x.about(4), x.about(5)};
    }

    private static void same(String what, int[] due, int[] got) {
        for (int i = 0; i < due.length; i++) {
            due(what + ", " + i, got[i], due[i]);
        }
    }

    private static void about() {
        WhiteRoads x = Check.told(GRASS + "yard b grass slope 0 traffic 0 warm 4;yard c grass slope 0 traffic 0 warm 4;"
            + "way a c takes 5;way a b takes 5;hour fall 1 temp 1 wet 1;" + SLIPS + "depot c;store 77;");
        x.run(11);
        x.spread(0, 7);
        x.read(0, 0, 0, 0, 0);
        x.later(13);
        x.feed(0, 0, 0, 0, 0);
        x.round(3, 5, 0);
        int[] due = {3, 2, 1, 4, 11, 70, 1, 13, 20, 2, 2};
        for (int i = 0; i < due.length; i++) {
            due("about(" + i + ")", x.about(i), due[i]);
        }
        due("about(11)", x.about(11), NONE);
        due("about(-1)", x.about(-1), NONE);
        due("about(least)", x.about(Integer.MIN_VALUE), NONE);
    }
}
