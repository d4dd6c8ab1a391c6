/** Boundary cases of promises 20 to 24: one test for each. */
public final class EdgeGlassTest {
    private static final int NONE = WhiteRoads.NONE;
    private static final int LEAST = Integer.MIN_VALUE;
    private static final int MOST = Integer.MAX_VALUE;
    private static final Check CHECK = new Check();
    /** Behind STEP 1 the grass is at 0 by SLIPS 0 and 1, at 5 by 10, at -5 by -10: bits 1, 2, 4, 8. */
    private static final String GRASS = Texts.yard("a", "grass", 0, 0, "0");
    private static final String FOUR = Texts.slip(0, 1) + Texts.slip(1, 1) + Texts.slip(10, 1) + Texts.slip(-10, 1);
    private static final String PLAIN = GRASS + FOUR;

    public static void main(String[] args) {
        CHECK.runAll(EdgeGlassTest.class);
    }

    private static void due(String what, long got, long due) {
        CHECK.due(what, got, due);
    }

    private static void due(String what, boolean got, boolean due) {
        CHECK.due(what, got, due);
    }

    /** NONE, and nothing is READ by that. */
    private static void notRead(WhiteRoads x, int yard, int layer, int step, int warmth, int some) {
        int glasses = x.about(6);
        int left = x.left(MOST);
        String what = "read(" + yard + ", " + layer + ", " + step + ", " + warmth + ", " + some + ")";
        due(what, x.read(yard, layer, step, warmth, some), NONE);
        due(what + ": GLASSES", x.about(6), glasses);
        due(what + ": LEFT", x.left(MOST), left);
    }

    // promise 20: read

    static void readNumbersFrom0On() {
        WhiteRoads x = Check.told(PLAIN);
        due("the first", x.read(0, 0, 1, 0, 99), 0);
        due("the second, though it is the same", x.read(0, 0, 1, 0, 99), 1);
        x.untell(0);
        due("an UNTOLD one keeps its number", x.read(0, 0, 1, 0, 99), 2);
        due("GLASSES", x.about(6), 3);
    }

    static void readOfAYardThatIsNone() {
        WhiteRoads x = Check.told(Texts.roads(8) + FOUR);
        for (int yard : new int[] {-1, 8, LEAST, MOST}) {
            notRead(x, yard, 0, 0, 50, 0);
        }
        due("the last", x.read(7, 0, 0, 50, 0), 0);
    }

    static void readOfALayerThatIsNone() {
        for (int count = 1; count <= 5; count++) {
            WhiteRoads x = Check.told(Texts.yard("a", "road", 0, 0, "0 ".repeat(count)) + FOUR);
            for (int layer : new int[] {-1, count, 5, LEAST, MOST}) {
                notRead(x, 0, layer, 0, 50, 0);
            }
            due("the last", x.read(0, count - 1, 0, 50, 0), 0);
        }
    }

    static void readBehindStep0To72() {
        WhiteRoads x = Check.told(PLAIN);
        for (int step : new int[] {-1, 73, LEAST, MOST}) {
            notRead(x, 0, 0, step, 50, 0);
        }
        due("behind 0", x.read(0, 0, 0, 0, 0), 0);
        due("it is so by all", x.left(0), 15);
        // behind STEP 72 it is at 0 by 0 and 1, and within 1 of 10 and -10
        due("behind 72", x.read(0, 0, 72, 9, 1), 1);
        due("it is so by 10", x.left(0), 4);
    }

    static void readBehind0IsAsTold() {
        WhiteRoads x = Check.told(Texts.yard("a", "grass", 0, 0, "-200 200") + Texts.hour(99, 200, 0) + FOUR);
        x.read(0, 0, 0, -200, 0);
        x.read(0, 1, 0, 200, 0);
        due("so by all", x.left(0), 15);
        x.read(0, 0, 0, -199, 0);
        due("so by none", x.left(0), 0);
    }

    static void readBehind72IsAsInEarnest() {
        String text = Texts.yard("a", "bridge", 0, 40, "20 -10 5") + Texts.hour(3, 10, 5) + Texts.hour(2, -30, 1) + Texts.hour(0, 40, 0);
        int[] by = {0, 13, -20};
        for (int i = 0; i < by.length; i++) {
            WhiteRoads y = Check.told(text);
            y.shift(by[i]);
            y.run(72);
            for (int layer = 0; layer < 3; layer++) {
                WhiteRoads x = Check.told(text + "slip 0 weight 1;slip 13 weight 1;slip -20 weight 1;");
                x.read(0, layer, 72, y.warm(0, layer), 0);
                due("so by " + by[i], x.left(0) >> i & 1, 1);
                x.read(0, layer, 72, y.warm(0, layer) + 1, 0);
                due("not so by " + by[i], x.left(0) >> i & 1, 0);
            }
        }
    }

    static void readWarmthMinus999To999() {
        WhiteRoads x = Check.told(PLAIN);
        for (int warmth : new int[] {-1000, 1000, LEAST, MOST}) {
            notRead(x, 0, 0, 0, warmth, 99);
        }
        due("999", x.read(0, 0, 0, 999, 99), 0);
        due("-999", x.read(0, 0, 0, -999, 99), 1);
    }

    static void readGiveOrTake0To99() {
        WhiteRoads x = Check.told(PLAIN);
        for (int some : new int[] {-1, 100, LEAST, MOST}) {
            notRead(x, 0, 0, 0, 0, some);
        }
        due("0", x.read(0, 0, 0, 0, 0), 0);
        due("99", x.read(0, 0, 0, 0, 99), 1);
        due("so by all", x.left(0), 15);
    }

    static void readGiveOrTakeAtItsEdges() {
        // what is there is 0
        int[][] rows = {{0, 0, 15}, {1, 0, 0}, {-1, 0, 0}, {1, 1, 15}, {-1, 1, 15}, {5, 4, 0}, {5, 5, 15}, {-5, 4, 0}, {-5, 5, 15},
            {99, 99, 15}, {100, 99, 0}, {-99, 99, 15}, {-100, 99, 0}, {99, 98, 0}, {-99, 98, 0}};
        for (int[] row : rows) {
            WhiteRoads x = Check.told(PLAIN);
            x.read(0, 0, 0, row[0], row[1]);
            due(row[0] + ", give or take " + row[1], x.left(0), row[2]);
        }
    }

    static void readThirtyAndNoMore() {
        WhiteRoads x = Check.told(PLAIN);
        for (int i = 0; i < 30; i++) {
            due("read", x.read(0, 0, 0, 0, 0), i);
        }
        due("GLASSES", x.about(6), 30);
        notRead(x, 0, 0, 0, 50, 0);
        for (int i = 0; i < 30; i++) {
            due("untell", x.untell(i), true);
        }
        notRead(x, 0, 0, 0, 50, 0);
        due("all are UNTOLD, there are 30 yet", x.about(6), 30);
        Check.tell(x, PLAIN);
        due("a new LAND has none", x.read(0, 0, 0, 0, 0), 0);
    }

    static void readTheThirtiethCounts() {
        WhiteRoads x = Check.told(PLAIN);
        for (int i = 0; i < 29; i++) {
            x.read(0, 0, 0, 0, 0);
        }
        due("so by all", x.left(0), 15);
        due("the thirtieth", x.read(0, 0, 1, 5, 0), 29);
        due("so by 10", x.left(0), 4);
        due("untell", x.untell(29), true);
        due("so by all", x.left(0), 15);
    }

    static void readWithoutSlips() {
        WhiteRoads x = Check.told(GRASS);
        due("read", x.read(0, 0, 0, 0, 0), 0);
        due("GLASSES", x.about(6), 1);
        due("LEFT", x.left(0), 0);
    }

    static void readIsFromTheBeginningWithoutSalt() {
        WhiteRoads x = Check.told(GRASS + Texts.hour(9, 0, 0) + FOUR);
        x.shift(50);
        x.spread(0, 99);
        x.run(144);
        // by 10 the top is at 5 and melts 2
        x.read(0, 0, 1, 1, 0);
        due("so by 10", x.left(0), 4);
    }

    // promise 21: untell

    static void untellOneThatIsNone() {
        WhiteRoads x = Check.told(PLAIN);
        due("of none", x.untell(0), false);
        x.read(0, 0, 1, 5, 0);
        x.read(0, 0, 1, 0, 99);
        for (int glass : new int[] {-1, 2, 29, 30, LEAST, MOST}) {
            due("untell(" + glass + ")", x.untell(glass), false);
            due("LEFT", x.left(0), 4);
        }
        due("the last", x.untell(1), true);
        due("the first", x.untell(0), true);
    }

    static void untellTwice() {
        WhiteRoads x = Check.told(PLAIN);
        x.read(0, 0, 1, 5, 0);
        x.later(3);
        due("untell", x.untell(0), true);
        due("again", x.untell(0), false);
        x.later(2);
        due("later", x.untell(0), false);
        due("it was UNTOLD at 3: at 2", x.left(2), 4);
        due("it was UNTOLD at 3: at 3", x.left(3), 15);
        due("it was UNTOLD at 3: at 4", x.left(4), 15);
    }

    static void untellAtTheSameTime() {
        WhiteRoads x = Check.told(PLAIN);
        x.later(5);
        x.read(0, 0, 1, 5, 0);
        due("at 5", x.left(5), 4);
        due("untell", x.untell(0), true);
        for (int k : new int[] {4, 5, 6}) {
            due("it never counted, at " + k, x.left(k), 15);
        }
    }

    static void untellAtTime0() {
        WhiteRoads x = Check.told(PLAIN);
        x.read(0, 0, 1, 5, 0);
        due("untell", x.untell(0), true);
        due("again", x.untell(0), false);
        due("at 0", x.left(0), 15);
        due("at -1", x.left(-1), 15);
    }

    static void untellOneOfALandBefore() {
        WhiteRoads x = Check.told(PLAIN);
        x.read(0, 0, 1, 5, 0);
        x.untell(0);
        Check.tell(x, PLAIN);
        due("none is there", x.untell(0), false);
        x.read(0, 0, 1, 5, 0);
        due("the new one is not UNTOLD", x.left(0), 4);
        due("untell", x.untell(0), true);
    }

    // promise 22: later

    static void later0To1000() {
        WhiteRoads x = new WhiteRoads();
        due("later(0)", x.later(0), 0);
        due("later(1)", x.later(1), 1);
        due("later(1000)", x.later(1000), 1001);
    }

    static void laterOfAnotherNumberDoesNothing() {
        WhiteRoads x = new WhiteRoads();
        x.later(7);
        for (int by : new int[] {-1, 1001, LEAST, MOST}) {
            due("later(" + by + ")", x.later(by), NONE);
            due("the TIME", x.about(7), 7);
        }
    }

    static void laterUpTo100000() {
        WhiteRoads x = new WhiteRoads();
        for (int i = 1; i < 100; i++) {
            due("later(1000)", x.later(1000), 1000 * i);
        }
        due("later(999)", x.later(999), 99999);
        due("later(2)", x.later(2), NONE);
        due("later(1000)", x.later(1000), NONE);
        due("the TIME", x.about(7), 99999);
        due("later(1)", x.later(1), 100000);
        due("later(1)", x.later(1), NONE);
        due("later(0)", x.later(0), 100000);
        due("the TIME", x.about(7), 100000);
    }

    static void laterFrom99000By1000() {
        WhiteRoads x = new WhiteRoads();
        for (int i = 1; i <= 100; i++) {
            due("later(1000)", x.later(1000), 1000 * i);
        }
        x = new WhiteRoads();
        x.later(1);
        for (int i = 1; i < 100; i++) {
            x.later(1000);
        }
        due("from 99001 by 1000", x.later(1000), NONE);
        due("the TIME", x.about(7), 99001);
        due("from 99001 by 999", x.later(999), 100000);
    }

    static void laterStaysBehindLand() {
        WhiteRoads x = Check.told(PLAIN);
        x.later(9);
        x.land();
        due("the TIME", x.about(7), 9);
    }

    static void glassesAtTheLastTime() {
        WhiteRoads x = Check.told(PLAIN);
        for (int i = 1; i <= 100; i++) {
            x.later(1000);
        }
        x.read(0, 0, 1, 5, 0);
        due("at 99999", x.left(99999), 15);
        due("at 100000", x.left(100000), 4);
        due("behind all", x.left(MOST), 4);
    }

    // promise 23: left

    static void leftAsKnownAtEachTime() {
        WhiteRoads x = Check.told(PLAIN);
        x.later(3);
        x.read(0, 0, 1, 5, 0);
        x.later(4);
        x.untell(0);
        int[] due = {15, 15, 15, 4, 4, 4, 4, 15, 15};
        for (int k = 0; k < due.length; k++) {
            due("left(" + k + ")", x.left(k), due[k]);
        }
        for (int k : new int[] {-1, LEAST, 1000000, MOST}) {
            due("left(" + k + ")", x.left(k), 15);
        }
    }

    static void leftAsKnownBefore0() {
        WhiteRoads x = Check.told(PLAIN);
        x.read(0, 0, 1, 5, 0);
        due("at 0", x.left(0), 4);
        due("at -1", x.left(-1), 15);
        due("before all", x.left(LEAST), 15);
        due("at NONE", x.left(NONE), 15);
    }

    static void leftOfNoneToSevenSlips() {
        for (int count = 0; count <= 7; count++) {
            due(count + " SLIPS", Check.told(GRASS + Texts.slips(count)).left(0), (1 << count) - 1);
        }
        due("without YARDS", Check.told(Texts.slips(7)).left(0), 127);
    }

    static void leftEachAlone() {
        // by SLIPS -30, -20 .. 30 the grass is at half of that behind STEP 1
        StringBuilder text = new StringBuilder(GRASS);
        for (int i = 0; i < 7; i++) {
            text.append(Texts.slip(10 * i - 30, 1));
        }
        for (int i = 0; i < 7; i++) {
            WhiteRoads x = Check.told(text.toString());
            x.read(0, 0, 1, 5 * i - 15, 0);
            due("SLIP " + i, x.left(0), 1 << i);
        }
        WhiteRoads x = Check.told(text.toString());
        x.read(0, 0, 1, 0, 5);
        due("three of them", x.left(0), 4 + 8 + 16);
        x.read(0, 0, 1, 10, 5);
        due("one of those", x.left(0), 16);
    }

    static void leftNone() {
        WhiteRoads x = Check.told(PLAIN);
        x.read(0, 0, 1, 5, 0);
        x.read(0, 0, 1, -5, 0);
        due("both can't be", x.left(0), 0);
        x.untell(0);
        due("one can", x.left(0), 8);
    }

    // promise 24: tells

    private static void tellsIs(String what, WhiteRoads x, int step, int k, int... due) {
        for (int i = 0; i < 3; i++) {
            due(what + ": tells(" + step + ", " + i + ", " + k + ")", x.tells(step, i, k), due[i]);
        }
    }

    static void tellsOfAnotherWhat() {
        WhiteRoads x = Check.told(PLAIN);
        for (int what : new int[] {-1, 3, LEAST, MOST}) {
            due("tells(1, " + what + ", 0)", x.tells(1, what, 0), NONE);
        }
    }

    static void tellsOfStep0To72() {
        WhiteRoads x = Check.told(PLAIN);
        for (int step : new int[] {-1, 73, LEAST, MOST}) {
            tellsIs("no STEP", x, step, 0, NONE, NONE, NONE);
        }
        tellsIs("at 0 all are alike", x, 0, 0, 0, 0, 4);
        tellsIs("behind 1 two are alike", x, 1, 0, 0, 0, 2);
        tellsIs("behind 72 two are alike", x, 72, 0, 0, 0, 2);
    }

    static void tellsWithoutYards() {
        tellsIs("no YARD", Check.told(FOUR), 1, 0, NONE, NONE, NONE);
    }

    static void tellsIfNoSlipIsLeft() {
        tellsIs("no SLIP", Check.told(GRASS), 1, 0, NONE, NONE, NONE);
        WhiteRoads x = Check.told(PLAIN);
        x.later(2);
        x.read(0, 0, 0, 1, 0);
        tellsIs("none is LEFT", x, 1, 2, NONE, NONE, NONE);
        tellsIs("none is LEFT", x, 1, MOST, NONE, NONE, NONE);
        tellsIs("before that all are", x, 1, 1, 0, 0, 2);
        tellsIs("before all, too", x, 1, LEAST, 0, 0, 2);
    }

    static void tellsIfOneIsLeft() {
        WhiteRoads x = Check.told(Texts.roads(3) + "slip 9 weight 1;");
        tellsIs("one SLIP", x, 72, 0, 0, 0, 1);
        x = Check.told(PLAIN);
        x.read(0, 0, 1, 5, 0);
        tellsIs("one is LEFT", x, 0, 0, 0, 0, 1);
    }

    static void tellsOfSevenSlips() {
        WhiteRoads x = Check.told(GRASS + Texts.slips(7));
        tellsIs("at 0 all are alike", x, 0, 0, 0, 0, 7);
        // 0 0 1 1 2 2 3
        tellsIs("two are alike", x, 1, 0, 0, 0, 2);
        x = Check.told(Texts.road("a") + Texts.slips(7));
        // 0 0 0 0 1 1 1
        tellsIs("four are alike", x, 1, 0, 0, 0, 4);
    }

    static void tellsOfLikeOnesTheFirstYardThenLayer() {
        // on a bridge both LAYERS are alike, and both bridges
        String bridges = Texts.yard("b", "bridge", 0, 0, "0 0") + Texts.yard("c", "bridge", 0, 0, "0 0");
        WhiteRoads x = Check.told(bridges + Texts.slip(0, 1) + Texts.slip(4, 1));
        tellsIs("the first of all", x, 1, 0, 0, 0, 1);
        x = Check.told(Texts.road("a") + bridges + Texts.slip(0, 1) + Texts.slip(4, 1));
        tellsIs("the road is as good", x, 1, 0, 0, 0, 1);
        x = Check.told(Texts.yard("a", "road", 0, 0, "-3") + bridges + Texts.slip(0, 1) + Texts.slip(4, 1));
        // the road goes by 3 / 4 and 7 / 4, so it tells them too; by 0 and 3 / 4 it doesn't
        tellsIs("the road tells too", x, 1, 0, 0, 0, 1);
        x = Check.told(Texts.yard("a", "road", 0, 0, "1") + bridges + Texts.slip(0, 1) + Texts.slip(4, 1));
        tellsIs("the road tells nothing", x, 1, 0, 1, 0, 1);
    }

    static void tellsABetterOneBeforeWorseOnes() {
        // grass tells 0 from 4, a road at 1 doesn't
        String worse = Texts.yard("b", "road", 0, 0, "1") + Texts.yard("c", "road", 0, 0, "1 1");
        WhiteRoads x = Check.told(GRASS + worse + Texts.slip(0, 1) + Texts.slip(4, 1));
        tellsIs("the first is the best", x, 1, 0, 0, 0, 1);
        x = Check.told(worse.replace("yard b", "yard d") + GRASS + worse.replace("yard c", "yard e") + Texts.slip(0, 1) + Texts.slip(4, 1));
        tellsIs("the one between is the best", x, 1, 0, 2, 0, 1);
    }

    static void tellsTheGreatestNumberWhereverItIs() {
        // behind STEP 1 the grass is at half of that
        int[][] rows = {{0, 1, 10, 20}, {10, 0, 1, 20}, {10, 20, 0, 1}, {0, 10, 1, 20}, {0, 10, 20, 1}, {10, 0, 20, 1}};
        for (int[] row : rows) {
            WhiteRoads x = Check.told(GRASS + Texts.slip(row[0], 1) + Texts.slip(row[1], 1) + Texts.slip(row[2], 1) + Texts.slip(row[3], 1));
            tellsIs("two are alike", x, 1, 0, 0, 0, 2);
        }
    }

    static void tellsCountsThoseLeftAlone() {
        // 0 0 1 1 2 2 3 behind STEP 1
        WhiteRoads x = Check.told(GRASS + Texts.slips(7));
        x.read(0, 0, 2, 4, 1);
        // behind STEP 2 they are at 0 0 1 2 3 3 4
        due("LEFT", x.left(0), 16 + 32 + 64);
        tellsIs("4 and 5 are alike", x, 1, 0, 0, 0, 2);
        x.read(0, 0, 2, 5, 1);
        due("LEFT", x.left(0), 64);
        tellsIs("6 alone", x, 1, 0, 0, 0, 1);
    }

    static void tellsOfAllThatCanBe() {
        // eight YARDS of five LAYERS, seven SLIPS
        StringBuilder text = new StringBuilder();
        for (int i = 0; i < 8; i++) {
            text.append(Texts.yard(Texts.letter(i), "road", 0, 0, "1 1 1 1 1"));
        }
        WhiteRoads x = Check.told(text + Texts.slips(7));
        // (slip - 1) / 4: five are at 1, two at 2; the LAYERS below get nothing
        tellsIs("the first top", x, 1, 0, 0, 0, 5);
        tellsIs("at 0 all are alike", x, 0, 0, 0, 0, 7);
        x = Check.told(text.toString().replace("yard h road", "yard h bridge").replace("1 1 1 1 1", "1 1 1 1 2") + Texts.slips(7));
        // (slip - 2) / 4: six are at 2, one at 3
        tellsIs("the first top yet", x, 1, 0, 0, 0, 5);
    }

    static void tellsTheLastLayerOfTheLastYard() {
        // roads that are at 0 by both; the last LAYER of the bridge alone is not
        String text = Texts.roads(7) + Texts.yard("h", "bridge", 0, 0, "0 0 0 0 1") + Texts.slip(0, 1) + Texts.slip(-3, 1);
        // (0 - 1) / 4 is 0, (-3 - 1) / 4 is -1
        WhiteRoads x = Check.told(text);
        tellsIs("YARD 7, LAYER 4", x, 1, 0, 7, 4, 1);
    }

    static void tellsByLayersThatAYardHasAlone() {
        // the LAND before had more LAYERS, and a bridge
        WhiteRoads x = Check.told(Texts.yard("a", "bridge", 0, 0, "0 0 0 0 1") + Texts.slip(0, 1) + Texts.slip(-3, 1));
        tellsIs("LAYER 4", x, 1, 0, 0, 4, 1);
        Check.tell(x, Texts.road("a") + Texts.slip(0, 1) + Texts.slip(-3, 1));
        tellsIs("the only LAYER", x, 1, 0, 0, 0, 2);
    }
}
