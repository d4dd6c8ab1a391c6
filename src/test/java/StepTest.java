/** Promises 6 to 10: STEPS in earnest, and what a YARD has then. */
public final class StepTest {
    private static final int NONE = WhiteRoads.NONE;
    private static final int GAP = WhiteRoads.GAP;
    private static final Check CHECK = new Check();
    private static final int WATER = 0;
    private static final int SNOW = 1;
    private static final int ICE = 2;
    private static final int SALT = 3;

    public static void main(String[] args) {
        run();
        shift();
        spread();
        topBySort();
        layers();
        hours();
        fallsAs();
        melts();
        meltsSnowThenIce();
        freezes();
        point();
        runsOff();
        traffic();
        whiteAndBlocked();
        wrongAsked();
        CHECK.finish("StepTest");
    }

    private static void due(String what, long got, long due) {
        CHECK.due(what, got, due);
    }

    private static String yard(String sort, int slope, int traffic, String warm) {
        return "yard a " + sort + " slope " + slope + " traffic " + traffic + " warm " + warm + ";";
    }

    private static String hour(int fall, int temp, int wet) {
        return "hour fall " + fall + " temp " + temp + " wet " + wet + ";";
    }

    private static void has(String what, WhiteRoads x, int water, int snow, int ice, int salt) {
        due(what + ": WATER", x.yard(0, WATER), water);
        due(what + ": SNOW", x.yard(0, SNOW), snow);
        due(what + ": ICE", x.yard(0, ICE), ice);
        due(what + ": SALT", x.yard(0, SALT), salt);
    }

    private static void warm(String what, WhiteRoads x, int... layers) {
        for (int i = 0; i < layers.length; i++) {
            due(what + ": LAYER " + i, x.warm(0, i), layers[i]);
        }
        due(what + ": how many LAYERS", x.yard(0, 6), layers.length);
    }

    private static void run() {
        WhiteRoads x = Check.told(yard("road", 0, 0, "0") + hour(1, -50, 0));
        due("run(0)", x.run(0), 0);
        due("run(-1)", x.run(-1), NONE);
        due("run(145)", x.run(145), NONE);
        due("run(most)", x.run(Integer.MAX_VALUE), NONE);
        due("run(least)", x.run(Integer.MIN_VALUE), NONE);
        due("nothing was done", x.about(4), 0);
        for (int i = 1; i <= 4; i++) {
            due("run(144)", x.run(144), 144 * i);
        }
        due("run(143)", x.run(143), 719);
        due("run(2) beyond 720", x.run(2), NONE);
        due("nothing was done", x.yard(0, SNOW), 719);
        due("run(1)", x.run(1), 720);
        due("run(1) beyond 720", x.run(1), NONE);
        due("run(0) at 720", x.run(0), 720);
        due("SNOW of 720 STEPS", x.yard(0, SNOW), 720);
        // WHAT WOULD BE goes on beyond
        due("deep behind 720", x.deep(0, 0, 72), 792);
    }

    private static void shift() {
        WhiteRoads x = Check.told(yard("road", 0, 0, "0") + hour(0, 10, 0));
        due("shift(50)", x.shift(50), 0);
        due("shift(51)", x.shift(51), GAP);
        due("shift(-51)", x.shift(-51), GAP);
        due("shift(-50)", x.shift(-50), 50);
        due("shift(22)", x.shift(22), -50);
        x.run(1);
        warm("(10 + 22 - 0) / 4", x, 8);
        x.shift(-50);
        x.run(1);
        warm("(10 - 50 - 8) / 4", x, -4);
        due("the SHIFT stays", x.shift(0), -50);
    }

    private static void spread() {
        WhiteRoads x = Check.told(yard("road", 0, 0, "0") + "store 150;");
        due("spread(0, 0)", x.spread(0, 0), NONE);
        due("spread(0, 100)", x.spread(0, 100), NONE);
        due("spread(0, -5)", x.spread(0, -5), NONE);
        due("spread(1, 5)", x.spread(1, 5), NONE);
        due("spread(-1, 5)", x.spread(-1, 5), NONE);
        due("nothing was spread", x.about(5), 150);
        due("spread(0, 99)", x.spread(0, 99), 51);
        due("spread(0, 52)", x.spread(0, 52), NONE);
        has("99 spread", x, 0, 0, 0, 99);
        due("spread(0, 1)", x.spread(0, 1), 50);
        due("spread(0, 50)", x.spread(0, 50), 0);
        due("spread(0, 1)", x.spread(0, 1), NONE);
        has("150 spread", x, 0, 0, 0, 150);
    }

    private static void topBySort() {
        String[] sorts = {"grass", "road", "bridge", "roof"};
        int[] up = {55, 32, 32, 40};
        int[] down = {5, 8, 8, 7};
        for (int i = 0; i < 4; i++) {
            WhiteRoads x = Check.told(yard(sorts[i], 0, 0, "10") + hour(0, 100, 0));
            x.run(1);
            warm(sorts[i] + " warmed", x, up[i]);
            x = Check.told(yard(sorts[i], 0, 0, "10") + hour(0, -1, 0));
            x.run(1);
            warm(sorts[i] + " cooled, cut towards 0", x, down[i]);
        }
    }

    private static void layers() {
        WhiteRoads x = Check.told(yard("road", 0, 0, "0 40 80") + hour(0, 0, 0));
        x.run(1);
        // 0 gets 10 of 40, then 30 gets 12 of 80
        warm("from the top on", x, 10, 42, 68);
        x = Check.told(yard("road", 0, 0, "0 -7") + hour(0, 0, 0));
        x.run(1);
        warm("cut towards 0", x, -1, -6);
        x = Check.told(yard("bridge", 0, 0, "0 8") + hour(0, 100, 0));
        x.run(1);
        // 25 and 31, then 1 goes up
        warm("a bridge from both sides", x, 26, 30);
        x = Check.told(yard("bridge", 0, 0, "0 0 0") + hour(0, 100, 0));
        x.run(1);
        // 25, 0, 25; then 25 loses 6, and 6 gets (25 - 6) / 4
        warm("a bridge of three", x, 19, 10, 21);
        x = Check.told(yard("road", 0, 0, "0 8") + hour(0, 100, 0));
        x.run(1);
        // 25 and 8; then 4 goes down
        warm("a road from above alone", x, 21, 12);
        x = Check.told(yard("roof", 0, 0, "0 0 0 0 200") + hour(0, 0, 0));
        x.run(1);
        warm("five LAYERS", x, 0, 0, 0, 50, 150);
    }

    private static void hours() {
        WhiteRoads x = Check.told(yard("road", 0, 0, "0") + hour(1, -9, 0) + hour(2, -9, 0) + hour(3, -9, 0));
        int[] falls = {1, 2, 3, 3, 3};
        int snow = 0;
        for (int i = 1; i <= 30; i++) {
            snow += falls[(i - 1) / 6];
            due("deep by HOURS behind " + i, x.deep(0, 0, i), snow);
        }
        x.run(5);
        due("SNOW behind 5", x.yard(0, SNOW), 5);
        due("deep goes on from now", x.deep(0, 0, 2), 8);
        x.run(2);
        due("SNOW behind 7", x.yard(0, SNOW), 8);
        x.run(12);
        due("SNOW behind 19", x.yard(0, SNOW), 6 + 12 + 21);
        x = Check.told(yard("road", 0, 0, "80"));
        x.shift(-20);
        x.run(1);
        warm("without HOURS T is the SHIFT", x, 55);
        has("without HOURS nothing falls", x, 0, 0, 0, 0);
    }

    private static void fallsAs() {
        WhiteRoads x = Check.told(yard("grass", 0, 0, "0") + hour(7, 0, 5));
        x.run(1);
        has("7 * 5 / 10 as WATER", x, 3, 4, 0, 0);
        x = Check.told(yard("grass", 0, 0, "0") + hour(9, 0, 10));
        x.run(1);
        has("all as WATER", x, 9, 0, 0, 0);
        x = Check.told(yard("grass", 0, 0, "0") + hour(9, 0, 1));
        x.run(1);
        has("9 * 1 / 10 is none", x, 0, 9, 0, 0);
    }

    private static void melts() {
        WhiteRoads x = Check.told(yard("roof", 0, 0, "10") + hour(9, 0, 0));
        x.run(1);
        // the top is 7, so 3 melt and it loses 6
        has("melted by the top", x, 3, 6, 0, 0);
        warm("and cooled by that", x, 1);
        x = Check.told(yard("grass", 0, 0, "100") + hour(9, 100, 0));
        x.run(1);
        has("as much as there is", x, 9, 0, 0, 0);
        warm("loses twice that", x, 82);
    }

    private static void meltsSnowThenIce() {
        // 9 fall as WATER and freeze, then SNOW comes on the ICE, then it gets warm
        WhiteRoads x = Check.told(yard("grass", 0, 0, "-100") + hour(1, -100, 10) + hour(2, -100, 0) + hour(0, 100, 0));
        x.run(12);
        has("frozen and snowed on", x, 0, 12, 6, 0);
        x.run(1);
        // what froze has left the top at -99: (100 + 99) / 2 brings it to 0
        has("at 0 nothing melts", x, 0, 12, 6, 0);
        warm("at 0", x, 0);
        x.run(1);
        // 50: 12 of SNOW (24 less), then 6 of ICE (12 less)
        has("SNOW, then ICE", x, 18, 0, 0, 0);
        warm("cooled by both", x, 14);
        x = Check.told(yard("grass", 0, 0, "-100") + hour(1, -100, 10) + hour(2, -100, 0) + hour(0, 29, 0));
        x.run(13);
        warm("(29 + 99) / 2", x, -35);
        x.run(1);
        warm("(29 + 35) / 2", x, -3);
        x.run(1);
        // 13: 6 of SNOW
        has("SNOW first", x, 6, 6, 6, 0);
        warm("near 0", x, 1);
        x.run(1);
        // 15: 6 of SNOW, then 1 of ICE
        has("then ICE with what is left", x, 13, 0, 5, 0);
        warm("near 0", x, 1);
    }

    private static void freezes() {
        WhiteRoads x = Check.told(yard("road", 0, 0, "-20") + hour(4, -20, 10));
        x.run(1);
        has("all of 4 freezes", x, 0, 0, 4, 0);
        warm("and gives warmth", x, -12);
        x = Check.told(yard("road", 0, 0, "-5") + hour(9, -5, 10));
        x.run(1);
        has("(0 + 5) / 2 freezes", x, 7, 0, 2, 0);
        warm("and gives warmth", x, -1);
        x.run(1);
        // (-5 + 1) / 4: -2, 1 freezes
        has("1 freezes", x, 15, 0, 3, 0);
        warm("at 0", x, 0);
    }

    private static void point() {
        WhiteRoads x = Check.told(yard("road", 0, 0, "-30") + hour(10, -30, 0));
        x.spread(0, 70);
        x.run(1);
        // 700 / (10 + 10) is 35: (-30 + 35) / 2 melt
        has("melted by SALT", x, 2, 8, 0, 70);
        warm("cooled below", x, -34);
        x = Check.told(yard("road", 0, 0, "-90") + hour(2, -90, 10));
        x.spread(0, 99);
        x.spread(0, 99);
        x.run(1);
        // 1980 / 12 is 165, but -80 is the least: (-80 + 90) / 2 could freeze, 2 are there
        has("-80 at least", x, 0, 0, 2, 198);
        warm("freezing at -80", x, -86);
        for (int cold = 90; cold <= 91; cold++) {
            x = Check.told(yard("road", 0, 0, "-" + cold) + hour(9, -cold, 10));
            x.spread(0, 99);
            x.spread(0, 99);
            x.run(1);
            has("(-80 + " + cold + ") / 2 freeze", x, 4, 0, 5, 198);
        }
        x = Check.told(yard("road", 0, 0, "-80") + hour(2, -80, 5));
        x.spread(0, 99);
        x.run(1);
        has("at the POINT nothing goes on", x, 1, 1, 0, 99);
        warm("at the POINT", x, -80);
        x = Check.told(yard("road", 0, 0, "-10") + hour(9, -10, 0));
        x.spread(0, 19);
        x.run(1);
        // 190 / 19 is 10
        has("at the POINT of 19", x, 0, 9, 0, 19);
        x = Check.told(yard("road", 0, 0, "-10") + hour(9, -10, 0));
        x.spread(0, 23);
        x.run(1);
        // 230 / 19 is 12, cut
        has("above the POINT of 23", x, 1, 8, 0, 23);
    }

    private static void runsOff() {
        String[] sorts = {"grass", "road", "bridge", "roof"};
        int[] held = {60, 20, 20, 10};
        for (int i = 0; i < 4; i++) {
            WhiteRoads x = Check.told(yard(sorts[i], 0, 0, "0") + hour(held[i], 0, 10));
            x.spread(0, 90);
            x.run(1);
            has(sorts[i] + " holds", x, held[i], 0, 0, 90);
            x.run(1);
            // half of the WATER runs off, and with it half of the SALT
            has(sorts[i] + " holds no more", x, held[i], 0, 0, 45);
            x.run(1);
            has(sorts[i] + " loses SALT, cut", x, held[i], 0, 0, 23);
        }
    }

    private static void traffic() {
        WhiteRoads x = Check.told(yard("road", 0, 59, "-100") + hour(3, -100, 0));
        x.spread(0, 99);
        x.run(1);
        // POINT -76, top -100: all stays; 99 * 59 / 100 is 58; 59 / 20 is 2
        has("thrown and packed", x, 0, 1, 2, 41);
        x.run(1);
        has("thrown and packed again", x, 0, 2, 4, 41 - 24);
        x = Check.told(yard("road", 0, 99, "-100") + hour(3, -100, 0));
        x.run(1);
        has("packed as much as there is", x, 0, 0, 3, 0);
        x = Check.told(yard("road", 0, 19, "-100") + hour(3, -100, 0));
        x.run(1);
        has("19 / 20 is none", x, 0, 3, 0, 0);
        x = Check.told(yard("road", 0, 20, "-100") + hour(3, -100, 0));
        x.run(1);
        has("20 / 20 is 1", x, 0, 2, 1, 0);
    }

    private static void whiteAndBlocked() {
        WhiteRoads x = Check.told(yard("road", 50, 20, "-100") + hour(4, -100, 0));
        // each STEP 3 SNOW and 1 ICE: 50 * 5 a STEP
        for (int i = 1; i <= 5; i++) {
            x.run(1);
            due("WHITE behind " + i, x.yard(0, 4), i >= 4 ? 1 : 0);
            due("BLOCKED behind " + i, x.yard(0, 5), i >= 4 ? 1 : 0);
        }
        x = Check.told(yard("road", 99, 0, "-100") + hour(9, -100, 0) + hour(0, -100, 0));
        x.run(1);
        due("9 is not WHITE", x.yard(0, 4), 0);
        x = Check.told(yard("road", 99, 0, "-100") + hour(10, -100, 0) + hour(0, -100, 0));
        x.run(1);
        due("10 is WHITE", x.yard(0, 4), 1);
        due("990 is not BLOCKED", x.yard(0, 5), 0);
        x.run(1);
        due("1980 is BLOCKED", x.yard(0, 5), 1);
        x = Check.told(yard("road", 37, 0, "-100") + hour(27, -100, 0));
        x.run(1);
        due("999 is not BLOCKED", x.yard(0, 5), 0);
        x = Check.told(yard("road", 40, 0, "-100") + hour(25, -100, 0));
        x.run(1);
        due("1000 is BLOCKED", x.yard(0, 5), 1);
        x = Check.told(yard("road", 0, 0, "-100") + hour(99, -100, 0));
        x.run(144);
        due("no slope is never BLOCKED", x.yard(0, 5), 0);
    }

    private static void wrongAsked() {
        WhiteRoads x = Check.told(yard("road", 0, 0, "5 6"));
        due("yard(0, -1)", x.yard(0, -1), NONE);
        due("yard(0, 7)", x.yard(0, 7), NONE);
        due("yard(1, 0)", x.yard(1, 0), NONE);
        due("yard(-1, 0)", x.yard(-1, 0), NONE);
        due("yard(least, least)", x.yard(Integer.MIN_VALUE, Integer.MIN_VALUE), NONE);
        due("warm(0, 1)", x.warm(0, 1), 6);
        due("warm(0, 2)", x.warm(0, 2), GAP);
        due("warm(0, -1)", x.warm(0, -1), GAP);
        due("warm(1, 0)", x.warm(1, 0), GAP);
        due("warm(-1, 0)", x.warm(-1, 0), GAP);
        due("warm(most, most)", x.warm(Integer.MAX_VALUE, Integer.MAX_VALUE), GAP);
    }
}
