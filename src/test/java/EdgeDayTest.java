/** Boundary cases of promises 6 to 10, and of what a STEP does: one test for each, worked out by hand. */
public final class EdgeDayTest {
    private static final int NONE = WhiteRoads.NONE;
    private static final int GAP = WhiteRoads.GAP;
    private static final int LEAST = Integer.MIN_VALUE;
    private static final int MOST = Integer.MAX_VALUE;
    private static final int SNOW = 1;
    private static final Check CHECK = new Check();
    private static final String[] SORTS = {"grass", "road", "bridge", "roof"};

    public static void main(String[] args) {
        CHECK.runAll(EdgeDayTest.class);
    }

    private static void due(String what, long got, long due) {
        CHECK.due(what, got, due);
    }

    private static void has(String what, WhiteRoads x, int water, int snow, int ice, int salt) {
        due(what + ": WATER", x.yard(0, 0), water);
        due(what + ": SNOW", x.yard(0, 1), snow);
        due(what + ": ICE", x.yard(0, 2), ice);
        due(what + ": SALT", x.yard(0, 3), salt);
    }

    private static void warm(String what, WhiteRoads x, int... layers) {
        due(what + ": how many LAYERS", x.yard(0, 6), layers.length);
        for (int i = 0; i < layers.length; i++) {
            due(what + ": LAYER " + i, x.warm(0, i), layers[i]);
        }
    }

    /** A YARD without slope and traffic under a sky that stays. */
    private static WhiteRoads under(String sort, String warm, int fall, int temp, int wet) {
        return Check.told(Texts.yard("a", sort, 0, 0, warm) + Texts.hour(fall, temp, wet));
    }

    /** The same behind one STEP; the top is as warm as the sky. */
    private static WhiteRoads behindOne(String sort, int temp, int fall, int wet, int salt) {
        WhiteRoads x = under(sort, String.valueOf(temp), fall, temp, wet);
        if (salt > 0) {
            due("spread", x.spread(0, salt), 999 - salt);
        }
        x.run(1);
        return x;
    }

    // promise 6: run

    static void run0To144() {
        WhiteRoads x = under("road", "0", 1, -50, 0);
        due("run(0)", x.run(0), 0);
        due("nothing fell", x.yard(0, SNOW), 0);
        due("run(1)", x.run(1), 1);
        due("run(144)", x.run(144), 145);
        due("SNOW of 145 STEPS", x.yard(0, SNOW), 145);
    }

    static void runOfAnotherNumberDoesNothing() {
        WhiteRoads x = under("road", "0", 1, -50, 0);
        x.run(3);
        for (int steps : new int[] {-1, 145, LEAST, MOST, MOST - 2}) {
            due("run(" + steps + ")", x.run(steps), NONE);
            due("STEPS", x.about(4), 3);
            due("SNOW", x.yard(0, SNOW), 3);
        }
    }

    private static WhiteRoads behind(int steps) {
        WhiteRoads x = under("road", "0", 1, -50, 0);
        for (int left = steps; left > 0; left -= 144) {
            x.run(Math.min(left, 144));
        }
        due("STEPS", x.about(4), steps);
        return x;
    }

    static void runUpTo720() {
        due("to 720 by 144", behind(576).run(144), 720);
        due("to 720 by 1", behind(719).run(1), 720);
        due("at 720 by 0", behind(720).run(0), 720);
        due("SNOW of 720 STEPS", behind(720).yard(0, SNOW), 720);
    }

    static void runBeyond720DoesNothing() {
        for (int[] row : new int[][] {{577, 144}, {719, 2}, {720, 1}, {720, 144}}) {
            WhiteRoads x = behind(row[0]);
            due("behind " + row[0] + ": run(" + row[1] + ")", x.run(row[1]), NONE);
            due("STEPS", x.about(4), row[0]);
            due("SNOW", x.yard(0, SNOW), row[0]);
        }
    }

    static void whatWouldBeGoesOnBeyond720() {
        WhiteRoads x = behind(720);
        due("deep", x.deep(0, 0, 72), 792);
        due("when", x.when(0, 0), 1);
    }

    // promise 7: shift

    static void shiftMinus50To50() {
        WhiteRoads x = under("grass", "0", 0, 0, 0);
        due("at first", x.shift(50), 0);
        due("from 50", x.shift(-50), 50);
        due("from -50", x.shift(0), -50);
        due("from 0", x.shift(0), 0);
    }

    static void shiftOfAnotherDoesNothing() {
        WhiteRoads x = under("grass", "0", 0, 0, 0);
        x.shift(8);
        for (int by : new int[] {51, -51, LEAST, MOST, GAP}) {
            due("shift(" + by + ")", x.shift(by), GAP);
        }
        x.run(1);
        warm("it is 8 yet", x, 4);
        due("it is 8 yet", x.shift(8), 8);
    }

    static void shiftAtBothEndsCounts() {
        WhiteRoads x = under("grass", "0", 0, 0, 0);
        x.shift(50);
        x.run(1);
        warm("50 / 2", x, 25);
        x = under("grass", "0", 0, 0, 0);
        x.shift(-50);
        x.run(1);
        warm("-50 / 2", x, -25);
        x = under("grass", "200", 0, 200, 0);
        x.shift(50);
        x.run(1);
        warm("the warmest T is 250", x, 225);
        x = under("grass", "-200", 0, -200, 0);
        x.shift(-50);
        x.run(1);
        warm("the coldest T is -250", x, -225);
    }

    // promise 8: spread

    static void spread1To99() {
        WhiteRoads x = under("road", "0", 0, 0, 0);
        due("spread 1", x.spread(0, 1), 998);
        due("spread 99", x.spread(0, 99), 899);
        has("100 spread", x, 0, 0, 0, 100);
    }

    static void spreadOfAnotherNumberDoesNothing() {
        WhiteRoads x = under("road", "0", 0, 0, 0);
        for (int salt : new int[] {0, 100, -1, LEAST, MOST}) {
            due("spread(0, " + salt + ")", x.spread(0, salt), NONE);
            due("the store", x.about(5), 999);
            has("no SALT", x, 0, 0, 0, 0);
        }
    }

    static void spreadOnAYardThatIsNoneDoesNothing() {
        WhiteRoads x = Check.told(Texts.roads(8));
        for (int yard : new int[] {-1, 8, LEAST, MOST}) {
            due("spread(" + yard + ", 5)", x.spread(yard, 5), NONE);
            due("the store", x.about(5), 999);
        }
        due("on the first", x.spread(0, 5), 994);
        due("on the last", x.spread(7, 5), 989);
        for (int yard = 0; yard < 8; yard++) {
            due("SALT", x.yard(yard, 3), yard % 7 == 0 ? 5 : 0);
        }
    }

    static void spreadAllThatIsInTheStore() {
        WhiteRoads x = Check.told(Texts.road("a") + "store 7;");
        due("one more than there is", x.spread(0, 8), NONE);
        due("the store", x.about(5), 7);
        due("SALT", x.yard(0, 3), 0);
        due("all", x.spread(0, 7), 0);
        due("SALT", x.yard(0, 3), 7);
        due("one from the empty store", x.spread(0, 1), NONE);
        due("SALT", x.yard(0, 3), 7);
        due("the store", x.about(5), 0);
    }

    static void spreadFromAStoreOf0And1() {
        due("from 0", Check.told(Texts.road("a") + "store 0;").spread(0, 1), NONE);
        due("from 1", Check.told(Texts.road("a") + "store 1;").spread(0, 1), 0);
        due("2 from 1", Check.told(Texts.road("a") + "store 1;").spread(0, 2), NONE);
    }

    static void spreadFromAStoreOf98To100() {
        due("99 of 98", Check.told(Texts.road("a") + "store 98;").spread(0, 99), NONE);
        due("99 of 99", Check.told(Texts.road("a") + "store 99;").spread(0, 99), 0);
        due("99 of 100", Check.told(Texts.road("a") + "store 100;").spread(0, 99), 1);
    }

    static void spreadTheStoreNotTold() {
        WhiteRoads x = Check.told(Texts.road("a"));
        for (int i = 1; i <= 10; i++) {
            due("99 more", x.spread(0, 99), 999 - 99 * i);
        }
        due("10 of 9", x.spread(0, 10), NONE);
        due("9 of 9", x.spread(0, 9), 0);
        due("SALT", x.yard(0, 3), 999);
    }

    static void spreadAFullStore() {
        WhiteRoads x = Check.told(Texts.road("a") + "store 9999;");
        for (int i = 1; i <= 101; i++) {
            due("99 more", x.spread(0, 99), 9999 - 99 * i);
        }
        due("SALT", x.yard(0, 3), 9999);
        due("1 more", x.spread(0, 1), NONE);
        x.run(1);
        due("SALT stays", x.yard(0, 3), 9999);
    }

    // promise 9: yard

    static void yardWhat0To6() {
        WhiteRoads x = behindOne("road", 0, 5, 4, 3);
        // POINT -10 * 3 / 15: 1 of 3 SNOW melts
        int[] due = {3, 2, 0, 3, 0, 0, 1};
        for (int what = 0; what <= 6; what++) {
            due("yard(0, " + what + ")", x.yard(0, what), due[what]);
        }
    }

    static void yardOfAnotherWhat() {
        WhiteRoads x = behindOne("road", 0, 5, 4, 3);
        for (int what : new int[] {-1, 7, LEAST, MOST}) {
            due("yard(0, " + what + ")", x.yard(0, what), NONE);
        }
    }

    static void yardThatIsNone() {
        WhiteRoads x = Check.told(Texts.roads(8));
        for (int what = 0; what <= 6; what++) {
            for (int yard : new int[] {-1, 8, LEAST, MOST}) {
                due("yard(" + yard + ", " + what + ")", x.yard(yard, what), NONE);
            }
            due("the first", x.yard(0, what), what == 6 ? 1 : 0);
            due("the last", x.yard(7, what), what == 6 ? 1 : 0);
        }
        x = Check.told(Texts.roads(3));
        due("the last of three", x.yard(2, 6), 1);
        due("one behind the last", x.yard(3, 6), NONE);
    }

    static void yardOfALandBeforeIsNone() {
        WhiteRoads x = Check.told(Texts.roads(8));
        Check.tell(x, Texts.roads(1));
        due("the only one", x.yard(0, 6), 1);
        due("one of the LAND before", x.yard(1, 6), NONE);
        due("warm", x.warm(1, 0), GAP);
    }

    static void white9And10() {
        WhiteRoads x = behindOne("road", -50, 9, 0, 0);
        due("SNOW", x.yard(0, SNOW), 9);
        due("not WHITE", x.yard(0, 4), 0);
        x = behindOne("road", -50, 10, 0, 0);
        due("SNOW", x.yard(0, SNOW), 10);
        due("WHITE", x.yard(0, 4), 1);
    }

    static void whiteIsOfSnowAlone() {
        WhiteRoads x = behindOne("road", -50, 99, 10, 0);
        // 25 of 99 freeze, and 20 of the rest are held
        has("WATER and ICE", x, 20, 0, 25, 0);
        due("not WHITE", x.yard(0, 4), 0);
    }

    static void whiteIsAskedBehindTheWholeStep() {
        WhiteRoads x = Check.told(Texts.yard("a", "road", 0, 20, "-50") + Texts.hour(10, -50, 0));
        x.run(1);
        has("10 fell, 1 was packed", x, 0, 9, 1, 0);
        due("not WHITE", x.yard(0, 4), 0);
    }

    /** SNOW of one STEP on a YARD of that slope. */
    private static int blockedBySnow(int slope, int snow) {
        WhiteRoads x = Check.told(Texts.yard("a", "road", slope, 0, "-50") + Texts.hour(snow, -50, 0));
        x.run(1);
        due("SNOW", x.yard(0, SNOW), snow);
        return x.yard(0, 5);
    }

    static void blocked999And1000() {
        due("37 * 27", blockedBySnow(37, 27), 0);
        due("27 * 37", blockedBySnow(27, 37), 0);
        due("40 * 25", blockedBySnow(40, 25), 1);
        due("25 * 40", blockedBySnow(25, 40), 1);
        due("99 * 10", blockedBySnow(99, 10), 0);
        due("99 * 11", blockedBySnow(99, 11), 1);
        due("11 * 91", blockedBySnow(11, 91), 1);
        due("11 * 90", blockedBySnow(11, 90), 0);
    }

    static void blockedAtSlope1() {
        for (int last = 3; last <= 4; last++) {
            WhiteRoads x = Check.told(Texts.yard("a", "road", 1, 0, "-50") + Texts.hour(99, -50, 0) + Texts.hour(67, -50, 0)
                + Texts.hour(last, -50, 0));
            x.run(13);
            due("SNOW", x.yard(0, SNOW), 996 + last);
            due("BLOCKED", x.yard(0, 5), last - 3);
        }
    }

    static void blockedNeverAtSlope0() {
        WhiteRoads x = under("road", "-50", 99, -50, 0);
        x.run(144);
        due("SNOW", x.yard(0, SNOW), 99 * 144);
        due("not BLOCKED", x.yard(0, 5), 0);
    }

    static void blockedByIceTwice() {
        // 2 fall and are packed in each STEP
        WhiteRoads x = Check.told(Texts.yard("a", "road", 50, 99, "-50") + Texts.hour(2, -50, 0));
        x.run(4);
        has("four STEPS", x, 0, 0, 8, 0);
        due("50 * 2 * 8", x.yard(0, 5), 0);
        x.run(1);
        has("five STEPS", x, 0, 0, 10, 0);
        due("50 * 2 * 10", x.yard(0, 5), 1);
        x = Check.told(Texts.yard("a", "road", 49, 99, "-50") + Texts.hour(2, -50, 0));
        x.run(5);
        due("49 * 2 * 10", x.yard(0, 5), 0);
    }

    static void blockedNotByWater() {
        WhiteRoads x = Check.told(Texts.yard("a", "grass", 99, 0, "50") + Texts.hour(99, 50, 10));
        x.run(3);
        has("all is WATER", x, 60, 0, 0, 0);
        due("not BLOCKED", x.yard(0, 5), 0);
    }

    // promise 10: warm

    static void warmOfEachLayerAndNoOther() {
        for (int count = 1; count <= 5; count++) {
            WhiteRoads x = Check.told(Texts.yard("a", "road", 0, 0, "3 -4 5 -6 7".substring(0, new int[] {1, 4, 6, 9, 11}[count - 1])));
            for (int layer = 0; layer < count; layer++) {
                due("warm(0, " + layer + ")", x.warm(0, layer), new int[] {3, -4, 5, -6, 7}[layer]);
            }
            for (int layer : new int[] {-1, count, 5, LEAST, MOST}) {
                due("warm(0, " + layer + ") of " + count, x.warm(0, layer), GAP);
            }
        }
    }

    static void warmOfAYardThatIsNone() {
        WhiteRoads x = Check.told(Texts.roads(8));
        for (int yard : new int[] {-1, 8, LEAST, MOST}) {
            due("warm(" + yard + ", 0)", x.warm(yard, 0), GAP);
        }
        due("the last", x.warm(7, 0), 0);
        due("its second LAYER", x.warm(7, 1), GAP);
    }

    static void warmAtMinus1IsNoGap() {
        WhiteRoads x = under("road", "-1", 0, 0, 0);
        due("-1 like NONE", x.warm(0, 0), -1);
    }

    // what a STEP does: (1) and (2)

    static void topChangesCutTowards0() {
        int[] parts = {2, 4, 4, 3};
        for (int sort = 0; sort < 4; sort++) {
            for (int t = -9; t <= 9; t++) {
                WhiteRoads x = under(SORTS[sort], "0", 0, t, 0);
                x.run(1);
                int size = Math.abs(t) / parts[sort];
                warm(SORTS[sort] + " at " + t, x, t < 0 ? -size : size);
            }
        }
    }

    static void topFromTheColdestToTheWarmest() {
        int[] parts = {2, 4, 4, 3};
        for (int sort = 0; sort < 4; sort++) {
            WhiteRoads x = under(SORTS[sort], "-200", 0, 200, 0);
            x.run(1);
            warm(SORTS[sort], x, -200 + 400 / parts[sort]);
            x = under(SORTS[sort], "200", 0, -200, 0);
            x.run(1);
            warm(SORTS[sort], x, 200 - 400 / parts[sort]);
        }
    }

    static void bridgeOf1LayerAndOf2() {
        WhiteRoads x = under("bridge", "0", 0, 100, 0);
        x.run(1);
        warm("once, not twice", x, 25);
        x = under("bridge", "0 0", 0, 100, 0);
        x.run(1);
        warm("from both sides", x, 25, 25);
        x = under("bridge", "0 8", 0, 100, 0);
        x.run(1);
        // 25 and 8 + 23, then 1 goes up
        warm("from what it was", x, 26, 30);
        x = under("bridge", "0 0 0 0 0", 0, 100, 0);
        x.run(1);
        // 25 0 0 0 25; 19 6; 5 1; none; 6 19
        warm("of five", x, 19, 5, 1, 6, 19);
    }

    static void bridgeBottomCutTowards0() {
        for (int t = -9; t <= 9; t++) {
            WhiteRoads x = under("bridge", "0 0", 0, t, 0);
            x.run(1);
            int size = Math.abs(t) / 4;
            warm("both at " + t, x, t < 0 ? -size : size, t < 0 ? -size : size);
        }
    }

    static void otherSortsAreNotWarmedFromBelow() {
        for (String sort : new String[] {"grass", "road", "roof"}) {
            WhiteRoads x = under(sort, "100 100 100 100 0", 0, 100, 0);
            x.run(1);
            warm(sort, x, 100, 100, 100, 75, 25);
        }
    }

    static void layersPassCutTowards0() {
        for (int v = -9; v <= 9; v++) {
            int passed = Math.abs(v) / 4 * (v < 0 ? -1 : 1);
            WhiteRoads x = under("road", "0 " + v, 0, 0, 0);
            x.run(1);
            warm("0 over " + v, x, passed, v - passed);
            x = under("road", "0 0 0 0 " + v, 0, 0, 0);
            x.run(1);
            warm("the last of five", x, 0, 0, 0, passed, v - passed);
        }
    }

    static void layersPassFromTheTopOn() {
        WhiteRoads x = under("road", "0 0 0 0 0", 0, 200, 0);
        x.run(1);
        // 50; 38 12; 9 3; 3 0: what one gets goes on at once
        warm("downwards", x, 38, 9, 3, 0, 0);
        x = under("road", "0 16 64 0 0", 0, 0, 0);
        x.run(1);
        // 4 12; 25 51; 39 12; 9 3
        warm("both ways", x, 4, 25, 39, 9, 3);
    }

    // HOURS

    static void hourOf6Steps() {
        StringBuilder text = new StringBuilder(Texts.yard("a", "road", 0, 0, "-50"));
        for (int i = 1; i <= 12; i++) {
            text.append(Texts.hour(i, -50, 0));
        }
        WhiteRoads x = Check.told(text.toString());
        int snow = 0;
        for (int step = 1; step <= 90; step++) {
            // the twelfth goes on
            snow += Math.min(12, (step - 1) / 6 + 1);
            due("run", x.run(1), step);
            due("SNOW behind " + step, x.yard(0, SNOW), snow);
        }
    }

    static void hourThatIsTheOnlyOneGoesOn() {
        WhiteRoads x = behind(720);
        due("SNOW", x.yard(0, SNOW), 720);
        warm("the top", x, -47);
    }

    static void hoursNone() {
        WhiteRoads x = Check.told(Texts.yard("a", "grass", 0, 0, "9"));
        x.run(1);
        warm("temp is 0", x, 5);
        has("nothing falls", x, 0, 0, 0, 0);
        x.run(143);
        has("nothing falls", x, 0, 0, 0, 0);
    }

    // (3)

    static void fallAllAsSnowOrAllAsWater() {
        has("wet 0", behindOne("grass", 0, 60, 0, 0), 0, 60, 0, 0);
        has("wet 10", behindOne("grass", 0, 60, 10, 0), 60, 0, 0, 0);
        has("fall 0", behindOne("grass", 0, 0, 10, 0), 0, 0, 0, 0);
        has("fall 99", behindOne("grass", 0, 99, 0, 0), 0, 99, 0, 0);
    }

    static void fallAsWaterIsCut() {
        has("9 * 1 / 10", behindOne("grass", 0, 9, 1, 0), 0, 9, 0, 0);
        has("10 * 1 / 10", behindOne("grass", 0, 10, 1, 0), 1, 9, 0, 0);
        has("1 * 9 / 10", behindOne("grass", 0, 1, 9, 0), 0, 1, 0, 0);
        has("19 * 9 / 10", behindOne("grass", 0, 19, 9, 0), 17, 2, 0, 0);
        has("99 * 1 / 10", behindOne("grass", 0, 99, 1, 0), 9, 90, 0, 0);
    }

    // (4)

    static void topAtThePointAndNearIt() {
        // 5 WATER and 5 SNOW
        int[][] rows = {{-3, 4, 5, 1, -1}, {-2, 4, 5, 1, 0}, {-1, 5, 5, 0, -1}, {0, 5, 5, 0, 0}, {1, 5, 5, 0, 1}, {2, 6, 4, 0, 0}, {3, 6, 4, 0, 1}};
        for (int[] row : rows) {
            WhiteRoads x = behindOne("grass", row[0], 10, 5, 0);
            has("top at " + row[0], x, row[1], row[2], row[3], 0);
            warm("top at " + row[0], x, row[4]);
        }
    }

    static void topAtThePointOfSaltAndNearIt() {
        // 10 * 20 / (10 + 10): the POINT is -10
        int[][] rows = {{-13, 4, 5, 1, -11}, {-12, 4, 5, 1, -10}, {-11, 5, 5, 0, -11}, {-10, 5, 5, 0, -10}, {-9, 5, 5, 0, -9},
            {-8, 6, 4, 0, -10}, {-7, 6, 4, 0, -9}};
        for (int[] row : rows) {
            WhiteRoads x = behindOne("grass", row[0], 10, 5, 20);
            has("top at " + row[0], x, row[1], row[2], row[3], 20);
            warm("top at " + row[0], x, row[4]);
        }
    }

    static void pointIsCutTowards0() {
        // 10 * 19 / 20 is 9, so at -11 one freezes; 10 * 21 / 20 is 10, so at -11 none does
        has("POINT -9", behindOne("grass", -11, 10, 5, 19), 4, 5, 1, 19);
        has("POINT -10", behindOne("grass", -11, 10, 5, 21), 5, 5, 0, 21);
        // 10 * 1 / 20 is 0
        has("POINT 0", behindOne("grass", -2, 10, 5, 1), 4, 5, 1, 1);
        has("POINT -1", behindOne("grass", -2, 10, 5, 2), 5, 5, 0, 2);
    }

    static void pointMinus80AtLeast() {
        // WATER 1: 870 / 11 is 79, 880 / 11 is 80, 900 / 11 is 81
        has("POINT -79 at -81", behindOne("grass", -81, 1, 10, 87), 0, 0, 1, 87);
        has("POINT -80 at -81", behindOne("grass", -81, 1, 10, 88), 1, 0, 0, 88);
        has("POINT -80 at -82", behindOne("grass", -82, 1, 10, 88), 0, 0, 1, 88);
        has("no POINT -81 at -82", behindOne("grass", -82, 1, 10, 90), 0, 0, 1, 90);
        has("no POINT -90 at -82", behindOne("grass", -82, 1, 10, 99), 0, 0, 1, 99);
    }

    static void pointMinus80AtLeastForSnow() {
        // SNOW 1: at -78 it melts by POINT -80, at -79 it doesn't, even if 10 * SALT / 11 is above 80
        has("at -78", behindOne("grass", -78, 1, 0, 99), 1, 0, 0, 99);
        has("at -79", behindOne("grass", -79, 1, 0, 99), 0, 1, 0, 99);
        has("at -80", behindOne("grass", -80, 1, 0, 99), 0, 1, 0, 99);
    }

    static void pointCountsWaterSnowAndIce() {
        // 1 freezes in the first STEP and the top stays at 0: then WATER 5, SNOW 4, ICE 1 make 20, 10 * 20 / 20 is 10
        WhiteRoads x = Check.told(Texts.yard("a", "grass", 0, 0, "-2") + Texts.hours(1, 5, -2, 6));
        x.run(1);
        has("first STEP", x, 2, 2, 1, 0);
        warm("first STEP", x, 0);
        x.spread(0, 20);
        // (-20 + -2 - 0) / 2
        x.shift(-20);
        x.run(1);
        has("POINT -10, top -11", x, 5, 4, 1, 20);
        warm("POINT -10, top -11", x, -11);
    }

    static void snowMeltsAsMuchAsThereIs() {
        int[][] rows = {{9, 4, 1, 1}, {10, 5, 0, 0}, {11, 5, 0, 1}, {12, 5, 0, 2}, {200, 5, 0, 190}};
        for (int[] row : rows) {
            WhiteRoads x = behindOne("grass", row[0], 5, 0, 0);
            has("top at " + row[0], x, row[1], row[2], 0, 0);
            warm("top at " + row[0], x, row[3]);
        }
    }

    static void waterFreezesAsMuchAsThereIs() {
        int[][] rows = {{-9, 1, 4, -1}, {-10, 0, 5, 0}, {-11, 0, 5, -1}, {-12, 0, 5, -2}, {-200, 0, 5, -190}};
        for (int[] row : rows) {
            WhiteRoads x = behindOne("grass", row[0], 5, 10, 0);
            has("top at " + row[0], x, row[1], 0, row[2], 0);
            warm("top at " + row[0], x, row[3]);
        }
    }

    static void iceMeltsBehindSnowWithWhatIsLeft() {
        // behind the first STEP SNOW 2 and ICE 1; in the second one SNOW 5 and ICE 1 under a top of half the SHIFT
        int[][] rows = {{18, 4, 0, 2, 1}, {20, 5, 0, 1, 0}, {22, 5, 0, 1, 1}, {24, 6, 0, 0, 0}, {26, 6, 0, 0, 1}, {28, 6, 0, 0, 2}};
        for (int[] row : rows) {
            WhiteRoads x = Check.told(Texts.yard("a", "grass", 0, 20, "0") + Texts.hour(3, 0, 0));
            x.run(1);
            has("first STEP", x, 0, 2, 1, 0);
            x.shift(row[0]);
            x.run(1);
            has("SHIFT " + row[0], x, row[1], row[2], row[3], 0);
            warm("SHIFT " + row[0], x, row[4]);
        }
    }

    static void iceMeltsWithoutSnow() {
        // 2 fall and are packed
        for (int by = 0; by <= 12; by += 2) {
            WhiteRoads x = Check.told(Texts.yard("a", "grass", 0, 99, "0") + Texts.hour(2, 0, 0) + Texts.hour(0, 0, 0));
            x.run(6);
            has("packed", x, 0, 0, 12, 0);
            x.shift(by);
            x.run(1);
            has("SHIFT " + by, x, by / 4, 0, 12 - by / 4, 0);
            warm("SHIFT " + by, x, by / 2 % 2);
        }
    }

    static void nothingToMeltOrFreeze() {
        WhiteRoads x = behindOne("grass", 99, 5, 10, 0);
        has("WATER alone above 0", x, 5, 0, 0, 0);
        warm("stays", x, 99);
        x = behindOne("grass", -99, 5, 0, 0);
        has("SNOW alone below 0", x, 0, 5, 0, 0);
        warm("stays", x, -99);
        x = behindOne("grass", -99, 0, 0, 99);
        has("nothing at all", x, 0, 0, 0, 99);
        warm("stays", x, -99);
    }

    // (5)

    static void runsOffAboveWhatIsHeld() {
        int[] held = {60, 20, 20, 10};
        for (int sort = 0; sort < 4; sort++) {
            has("one less", behindOne(SORTS[sort], 0, held[sort] - 1, 10, 0), held[sort] - 1, 0, 0, 0);
            has("as much", behindOne(SORTS[sort], 0, held[sort], 10, 0), held[sort], 0, 0, 0);
            has("one more", behindOne(SORTS[sort], 0, held[sort] + 1, 10, 0), held[sort], 0, 0, 0);
            has("99", behindOne(SORTS[sort], 0, 99, 10, 0), held[sort], 0, 0, 0);
        }
    }

    static void saltRunsOffWithIt() {
        // SALT * 1 / (held + 1), cut
        int[] held = {60, 20, 20, 10};
        for (int sort = 0; sort < 4; sort++) {
            int h = held[sort];
            has("all is held", behindOne(SORTS[sort], 0, h, 10, 99), h, 0, 0, 99);
            has("too little SALT", behindOne(SORTS[sort], 0, h + 1, 10, h), h, 0, 0, h);
            has("just enough", behindOne(SORTS[sort], 0, h + 1, 10, h + 1), h, 0, 0, h);
        }
        // 99 * 89 / 99
        has("nearly all", behindOne("roof", 0, 99, 10, 99), 10, 0, 0, 10);
    }

    static void whatMeltedRunsOffAtOnce() {
        // 12 of 12 SNOW melt, 2 run off
        has("roof", behindOne("roof", 99, 12, 0, 0), 10, 0, 0, 0);
    }

    static void whatFreezesDoesNotRunOff() {
        // 12 WATER, 2 freeze, 10 are held
        has("roof", behindOne("roof", -4, 12, 10, 0), 10, 0, 2, 0);
        has("roof", behindOne("roof", -2, 12, 10, 0), 10, 0, 1, 0);
    }

    // (6)

    private static WhiteRoads behindOneOf(int traffic, int fall, int salt) {
        WhiteRoads x = Check.told(Texts.yard("a", "road", 0, traffic, "-100") + Texts.hour(fall, -100, 0));
        if (salt > 0) {
            x.spread(0, salt);
        }
        x.run(1);
        return x;
    }

    static void saltThrownOffIsCut() {
        int[][] rows = {{0, 99, 99}, {1, 99, 99}, {2, 50, 49}, {2, 49, 49}, {99, 1, 1}, {99, 2, 1}, {50, 2, 1}, {49, 2, 2}, {10, 10, 9},
            {9, 10, 10}, {99, 99, 1}, {10, 19, 18}, {10, 20, 18}};
        for (int[] row : rows) {
            due(row[1] + " * " + row[0] + " / 100", behindOneOf(row[0], 0, row[1]).yard(0, 3), row[2]);
        }
    }

    static void saltThrownOffIsOfWhatDidNotRunOff() {
        WhiteRoads x = Check.told(Texts.yard("a", "roof", 0, 50, "0") + Texts.hour(20, 0, 10));
        x.spread(0, 80);
        x.run(1);
        // 40 run off, half of the rest is thrown off
        has("half and half", x, 10, 0, 0, 20);
    }

    static void packedByTraffic() {
        for (int traffic = 0; traffic <= 99; traffic++) {
            int packed = traffic < 20 ? 0 : traffic < 40 ? 1 : traffic < 60 ? 2 : traffic < 80 ? 3 : 4;
            has("traffic " + traffic, behindOneOf(traffic, 9, 0), 0, 9 - packed, packed, 0);
        }
    }

    static void packedAsMuchAsThereIs() {
        for (int snow = 0; snow <= 6; snow++) {
            has("SNOW " + snow, behindOneOf(99, snow, 0), 0, Math.max(0, snow - 4), Math.min(4, snow), 0);
        }
    }
}
