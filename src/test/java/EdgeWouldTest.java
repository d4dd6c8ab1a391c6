/** Boundary cases of promises 11 to 16: one test for each; what would be is held against what comes in earnest. */
public final class EdgeWouldTest {
    private static final int NONE = WhiteRoads.NONE;
    private static final int GAP = WhiteRoads.GAP;
    private static final int LEAST = Integer.MIN_VALUE;
    private static final int MOST = Integer.MAX_VALUE;
    private static final Check CHECK = new Check();
    /** At -10 as the sky; 12 of SNOW fall in the first HOUR, and no more. */
    private static final String ROAD = Texts.yard("a", "road", 0, 0, "-10");
    private static final String SHORT_FALL = Texts.hour(2, -10, 0) + Texts.hour(0, -10, 0);
    private static final String SHORT = ROAD + SHORT_FALL;
    /** 1 of SNOW falls in each STEP from the 67th on. */
    private static final String LATE = ROAD + Texts.hours(11, 0, -10, 0) + Texts.hour(1, -10, 0);

    public static void main(String[] args) {
        CHECK.runAll(EdgeWouldTest.class);
    }

    private static void due(String what, long got, long due) {
        CHECK.due(what, got, due);
    }

    /** The first STEP up to the 72nd behind which it is WHITE in earnest, if so much is spread behind a STEP. */
    private static int whiteInEarnest(String text, int before, int by, int salt, int spreadBehind) {
        WhiteRoads x = Check.told(text);
        x.run(before);
        x.shift(by);
        for (int step = 0; step < 72; step++) {
            if (step == spreadBehind && salt > 0) {
                x.spread(0, salt);
            }
            x.run(1);
            if (x.yard(0, 4) == 1) {
                return step + 1;
            }
        }
        return NONE;
    }

    private static WhiteRoads behind(String text, int steps) {
        WhiteRoads x = Check.told(text);
        x.run(steps);
        return x;
    }

    // promise 11: when

    private static void whenIs(String text, int before, int by, int due) {
        due("when behind " + before + " by " + by, behind(text, before).when(0, by), due);
        due("in earnest", whiteInEarnest(text, before, by, 0, 0), due);
    }

    static void whenAtTheFirstStep() {
        whenIs(ROAD + Texts.hour(10, -10, 0), 0, 0, 1);
        whenIs(ROAD + Texts.hour(9, -10, 0), 0, 0, 2);
    }

    static void whenAtTheLastStepAndOneBehindIt() {
        whenIs(LATE, 5, 0, 71);
        whenIs(LATE, 4, 0, 72);
        whenIs(LATE, 3, 0, NONE);
    }

    static void whenNotAtAll() {
        whenIs(ROAD, 0, 0, NONE);
        whenIs(ROAD + Texts.hours(12, 0, -10, 0), 0, -50, NONE);
        // 9 in all
        whenIs(ROAD + Texts.hour(1, -10, 0) + Texts.hour(0, -10, 0), 0, 0, NONE);
    }

    static void whenItIsWhiteAlready() {
        whenIs(SHORT, 4, 0, 1);
        whenIs(SHORT, 5, 0, 1);
        whenIs(SHORT, 100, 0, 1);
    }

    static void whenItIsWhiteNowButNotBehindAStep() {
        String gone = Texts.yard("a", "grass", 0, 0, "0") + Texts.hour(2, 0, 0) + Texts.hour(0, 200, 0);
        due("WHITE now", behind(gone, 6).yard(0, 4), 1);
        whenIs(gone, 6, 0, NONE);
    }

    static void whenShiftMinus50To50() {
        // T is 0 and -20 in the end: at 0 nothing melts
        String mild = Texts.yard("a", "grass", 0, 0, "0") + Texts.hour(2, 50, 0);
        whenIs(mild, 0, -50, 5);
        whenIs(mild, 0, -49, 5);
        whenIs(mild, 0, 50, NONE);
        String cold = Texts.yard("a", "grass", 0, 0, "0") + Texts.hour(2, -50, 0);
        whenIs(cold, 0, 50, 5);
        whenIs(cold, 0, -50, 5);
        WhiteRoads x = Check.told(cold);
        for (int by : new int[] {51, -51, LEAST, MOST}) {
            due("when(0, " + by + ")", x.when(0, by), NONE);
        }
    }

    static void whenOfAYardThatIsNone() {
        WhiteRoads x = Check.told(Texts.roads(8) + Texts.hour(10, -200, 0));
        due("the first", x.when(0, 0), 1);
        due("the last", x.when(7, 0), 1);
        for (int yard : new int[] {8, -1, LEAST, MOST}) {
            due("when(" + yard + ", 0)", x.when(yard, 0), NONE);
        }
    }

    static void whenIsWithTheSaltThatThereIs() {
        WhiteRoads x = Check.told(SHORT);
        x.spread(0, 20);
        due("20 are too few", x.when(0, 0), 6);
        x.spread(0, 1);
        due("21 are enough", x.when(0, 0), NONE);
    }

    static void whenSnowIsTheLeastPartOfWhatFalls() {
        // 99 * 9 / 10 is 89
        whenIs(Texts.yard("a", "roof", 0, 0, "-200") + Texts.hour(99, -200, 9), 0, 0, 1);
        whenIs(Texts.yard("a", "roof", 0, 0, "-200") + Texts.hour(1, -200, 9), 0, 0, 10);
        whenIs(Texts.yard("a", "roof", 0, 0, "-200") + Texts.hour(99, -200, 10), 0, 0, NONE);
    }

    static void whenAtTheLastStepWithSnowAndTheNextHourWithout() {
        // the tenth falls in the last STEP of an HOUR
        for (int hour = 1; hour <= 12; hour++) {
            String text = ROAD + Texts.hours(hour - 1, 0, -10, 0) + Texts.hour(2, -10, 0) + (hour < 12 ? Texts.hour(0, -10, 0) : "");
            whenIs(text, 0, 0, 6 * hour - 1);
            whenIs(text.replace("traffic 0", "traffic 20").replace("fall 2", "fall 3"), 0, 0, 6 * hour - 1);
        }
    }

    static void whenIsNotByTheShiftInEarnest() {
        WhiteRoads x = Check.told(SHORT);
        x.shift(50);
        due("by SHIFT 0", x.when(0, 0), 5);
    }

    // promise 12: deep

    static void deepBehindStep0To72() {
        WhiteRoads x = behind(ROAD + Texts.hour(1, -10, 0), 9);
        due("now", x.deep(0, 0, 0), 9);
        due("as yard tells", x.yard(0, 1), 9);
        for (int step = 1; step <= 72; step++) {
            due("behind " + step, x.deep(0, 0, step), 9 + step);
        }
        for (int step : new int[] {-1, 73, LEAST, MOST}) {
            due("deep(0, 0, " + step + ")", x.deep(0, 0, step), NONE);
        }
    }

    static void deepByHours() {
        WhiteRoads x = behind(ROAD + Texts.hour(1, -10, 0) + Texts.hour(2, -10, 0) + Texts.hour(3, -10, 0), 4);
        int[] due = {4, 5, 6, 8, 10, 12, 14, 16, 18, 21, 24};
        for (int step = 0; step < due.length; step++) {
            due("behind " + step, x.deep(0, 0, step), due[step]);
        }
    }

    static void deepOfNothingIs0() {
        WhiteRoads x = Check.told(ROAD);
        due("now", x.deep(0, 0, 0), 0);
        due("behind the last STEP", x.deep(0, 50, 72), 0);
    }

    static void deepBeyond720Steps() {
        WhiteRoads x = Check.told(ROAD + Texts.hour(99, -10, 0));
        for (int i = 0; i < 5; i++) {
            x.run(144);
        }
        due("now", x.deep(0, 0, 0), 71280);
        due("behind the last STEP", x.deep(0, -50, 72), 78408);
    }

    static void deepShiftMinus50To50() {
        String mild = Texts.yard("a", "grass", 0, 0, "0") + Texts.hour(9, 50, 0);
        for (int by : new int[] {-50, -49, 0, 49, 50}) {
            WhiteRoads x = Check.told(mild);
            WhiteRoads y = Check.told(mild);
            y.shift(by);
            for (int step = 1; step <= 72; step++) {
                y.run(1);
                due("by " + by + " behind " + step, x.deep(0, by, step), y.yard(0, 1));
            }
        }
        WhiteRoads x = Check.told(mild);
        for (int by : new int[] {51, -51, LEAST, MOST}) {
            due("deep(0, " + by + ", 0)", x.deep(0, by, 0), NONE);
        }
    }

    static void deepOfAYardThatIsNone() {
        WhiteRoads x = Check.told(Texts.roads(8) + Texts.hour(10, -200, 0));
        due("the last", x.deep(7, 0, 1), 10);
        for (int yard : new int[] {8, -1, LEAST, MOST}) {
            due("deep(" + yard + ", 0, 0)", x.deep(yard, 0, 0), NONE);
        }
    }

    // promise 13: least

    /** It is so by what comes in earnest: with so much it is never WHITE, with any less it is. */
    private static void leastIs(String text, int by, int due) {
        due("least by " + by, Check.told(text).least(0, by), due);
        for (int salt = 0; salt < (due == NONE ? 100 : due); salt++) {
            due(salt + " in earnest are too few", whiteInEarnest(text, 0, by, salt, 0) != NONE ? 1 : 0, 1);
        }
        if (due != NONE) {
            due(due + " in earnest are enough", whiteInEarnest(text, 0, by, due, 0), NONE);
        }
    }

    static void least0() {
        leastIs(ROAD, 0, 0);
        leastIs(SHORT, 19, 0);
    }

    static void least1() {
        WhiteRoads x = Check.told(SHORT);
        due("21 in all", x.least(0, 0), 21);
        x.spread(0, 20);
        due("1 more", x.least(0, 0), 1);
        x.spread(0, 1);
        due("no more", x.least(0, 0), 0);
        leastIs(SHORT, 0, 21);
    }

    static void least99AndNotEnough() {
        leastIs(Texts.road("a") + Texts.hour(4, -27, 0) + Texts.hour(0, -10, 0), 0, 99);
        String more = Texts.road("a") + Texts.hour(5, -8, 0) + Texts.hour(0, -10, 0);
        leastIs(more, 0, NONE);
        WhiteRoads x = Check.told(more);
        x.spread(0, 1);
        due("100 would have been enough", x.least(0, 0), 99);
    }

    static void leastNeverEnough() {
        leastIs(ROAD + Texts.hour(10, -200, 0), 0, NONE);
    }

    static void leastShiftMinus50To50() {
        due("by -50", Check.told(ROAD + Texts.hour(2, 40, 0) + Texts.hour(0, 40, 0)).least(0, -50), 21);
        due("by 50", Check.told(ROAD + Texts.hour(2, -60, 0) + Texts.hour(0, -60, 0)).least(0, 50), 21);
        WhiteRoads x = Check.told(SHORT);
        for (int by : new int[] {51, -51, LEAST, MOST}) {
            due("least(0, " + by + ")", x.least(0, by), NONE);
        }
    }

    static void leastOfAYardThatIsNone() {
        WhiteRoads x = Check.told(Texts.roads(8));
        due("the last", x.least(7, 0), 0);
        for (int yard : new int[] {8, -1, LEAST, MOST}) {
            due("least(" + yard + ", 0)", x.least(yard, 0), NONE);
        }
    }

    static void leastIsNotBoundByTheStore() {
        due("the store is empty", Check.told(SHORT + "store 0;").least(0, 0), 21);
    }

    // promise 14: latest

    /** It is so by what comes in earnest: behind that STEP it helps, behind any later one it does not. */
    private static void latestIs(String text, int before, int by, int salt, int due) {
        due("latest of " + salt + " behind " + before, behind(text, before).latest(0, by, salt), due);
        for (int step = 71; step > due; step--) {
            due("behind " + step + " in earnest it is too late", whiteInEarnest(text, before, by, salt, step) != NONE ? 1 : 0, 1);
        }
        if (due != NONE) {
            due("behind " + due + " in earnest it is in time", whiteInEarnest(text, before, by, salt, due), NONE);
        }
    }

    static void latest71() {
        latestIs(ROAD, 0, 0, 0, 71);
        latestIs(ROAD, 0, 0, 99, 71);
        // WHITE behind STEP 72, if not salted: behind STEP 71 it is in time
        latestIs(LATE, 4, 0, 99, 71);
        latestIs(LATE, 3, 0, 0, 71);
    }

    static void latest70() {
        latestIs(LATE, 4, 0, 23, 70);
        latestIs(LATE, 5, 0, 99, 70);
    }

    static void latest0AndNone() {
        latestIs(SHORT, 0, 0, 20, NONE);
        latestIs(SHORT, 0, 0, 21, 0);
        latestIs(SHORT, 0, 0, 22, 0);
        latestIs(SHORT, 0, 0, 23, 1);
        latestIs(SHORT, 4, 0, 99, 0);
        // WHITE now: SALT can make it melt before the next STEP is over
        latestIs(SHORT, 5, 0, 99, 0);
    }

    static void latestSalt0To99() {
        latestIs(SHORT, 0, 0, 0, NONE);
        latestIs(SHORT, 0, 0, 99, 4);
        WhiteRoads x = Check.told(ROAD);
        for (int salt : new int[] {-1, 100, LEAST, MOST}) {
            due("latest(0, 0, " + salt + ")", x.latest(0, 0, salt), NONE);
        }
    }

    static void latestWithTheSaltThatThereIs() {
        WhiteRoads x = Check.told(SHORT);
        x.spread(0, 20);
        due("20 are too few", x.latest(0, 0, 0), NONE);
        x.spread(0, 1);
        due("21 are enough", x.latest(0, 0, 0), 71);
        due("1 more can wait", x.latest(0, 0, 1), 71);
    }

    static void latestThoughEarlierWouldNotHelp() {
        String bridge = Texts.yard("a", "bridge", 0, 8, "-28") + Texts.hour(1, -14, 3) + Texts.hour(2, -23, 4) + Texts.hour(0, -2, 0);
        latestIs(bridge, 0, 0, 78, 7);
        due("behind STEP 3 it is too early", whiteInEarnest(bridge, 0, 0, 78, 3) != NONE ? 1 : 0, 1);
    }

    static void latestShiftMinus50To50() {
        due("by -50", Check.told(ROAD + Texts.hour(2, 40, 0) + Texts.hour(0, 40, 0)).latest(0, -50, 99), 4);
        due("by 50", Check.told(ROAD + Texts.hour(2, -60, 0) + Texts.hour(0, -60, 0)).latest(0, 50, 99), 4);
        WhiteRoads x = Check.told(ROAD);
        for (int by : new int[] {51, -51, LEAST, MOST}) {
            due("latest(0, " + by + ", 9)", x.latest(0, by, 9), NONE);
        }
    }

    static void latestOfAYardThatIsNone() {
        WhiteRoads x = Check.told(Texts.roads(8));
        due("the last", x.latest(7, 0, 0), 71);
        for (int yard : new int[] {8, -1, LEAST, MOST}) {
            due("latest(" + yard + ", 0, 0)", x.latest(yard, 0, 0), NONE);
        }
    }

    static void latestIsNotBoundByTheStore() {
        due("the store is empty", Check.told(SHORT + "store 0;").latest(0, 0, 99), 4);
    }

    // promise 15: odds

    private static void oddsAre(String what, WhiteRoads x, int yard, int k, int upper, int lower) {
        due(what + ": upper part", x.odds(yard, 0, k), upper);
        due(what + ": lower part", x.odds(yard, 1, k), lower);
    }

    static void oddsOf0AndOf1() {
        oddsAre("never", Check.told(ROAD + "slip 0 weight 99;slip 1 weight 98;"), 0, 0, 0, 1);
        oddsAre("always", Check.told(SHORT + "slip 0 weight 99;slip 1 weight 98;"), 0, 0, 1, 1);
        oddsAre("never, by one", Check.told(ROAD + "slip 0 weight 1;"), 0, 0, 0, 1);
        oddsAre("always, by one", Check.told(SHORT + "slip 0 weight 99;"), 0, 0, 1, 1);
    }

    static void oddsInLowestTerms() {
        // WHITE by 0, not by 30
        oddsAre("6 of 9", Check.told(SHORT + "slip 0 weight 6;slip 30 weight 3;"), 0, 0, 2, 3);
        oddsAre("1 of 100", Check.told(SHORT + "slip 0 weight 1;slip 30 weight 99;"), 0, 0, 1, 100);
        oddsAre("99 of 100", Check.told(SHORT + "slip 30 weight 1;slip 0 weight 99;"), 0, 0, 99, 100);
        oddsAre("50 of 100", Check.told(SHORT + "slip 30 weight 50;slip 0 weight 50;"), 0, 0, 1, 2);
        oddsAre("97 of 194", Check.told(SHORT + "slip 30 weight 97;slip 0 weight 97;"), 0, 0, 1, 2);
    }

    static void oddsOfSevenSlipsAsHeavyAsCanBe() {
        String text = SHORT + "slip 0 weight 99;slip 30 weight 99;slip -1 weight 99;slip 31 weight 99;slip 32 weight 99;"
            + "slip -50 weight 99;slip 50 weight 98;";
        oddsAre("297 of 692", Check.told(text), 0, 0, 297, 692);
        oddsAre("297 of 693", Check.told(text.replace("98", "99")), 0, 0, 3, 7);
    }

    static void oddsOfAnotherPart() {
        WhiteRoads x = Check.told(SHORT + "slip 0 weight 1;");
        for (int part : new int[] {-1, 2, LEAST, MOST}) {
            due("odds(0, " + part + ", 0)", x.odds(0, part, 0), NONE);
        }
    }

    static void oddsOfAYardThatIsNone() {
        WhiteRoads x = Check.told(Texts.roads(8) + "slip 0 weight 1;");
        due("the last", x.odds(7, 1, 0), 1);
        for (int yard : new int[] {8, -1, LEAST, MOST}) {
            due("odds(" + yard + ", 1, 0)", x.odds(yard, 1, 0), NONE);
        }
    }

    static void oddsIfNoSlipIsLeft() {
        oddsAre("no SLIP", Check.told(SHORT), 0, 0, NONE, NONE);
        WhiteRoads x = Check.told(SHORT + "slip 0 weight 1;slip 30 weight 1;");
        x.later(2);
        x.read(0, 0, 0, -11, 0);
        oddsAre("none is LEFT at 2", x, 0, 2, NONE, NONE);
        oddsAre("none is LEFT later", x, 0, MOST, NONE, NONE);
        oddsAre("at 1 both are", x, 0, 1, 1, 2);
        oddsAre("before all both are", x, 0, LEAST, 1, 2);
        x.later(1);
        x.untell(0);
        oddsAre("at 2 none is", x, 0, 2, NONE, NONE);
        oddsAre("at 3 both are again", x, 0, 3, 1, 2);
    }

    static void oddsOfOneThatIsLeft() {
        WhiteRoads x = Check.told(SHORT + "slip 0 weight 7;slip 30 weight 5;");
        // behind STEP 1 it is at -10 by 0 and at -3 by 30
        x.read(0, 0, 1, -10, 0);
        oddsAre("SLIP 0 is LEFT", x, 0, 0, 1, 1);
        x.untell(0);
        x.read(0, 0, 1, -3, 0);
        oddsAre("SLIP 30 is LEFT", x, 0, 0, 0, 1);
    }

    static void oddsWithTheSaltThatThereIs() {
        WhiteRoads x = Check.told(SHORT + "slip 0 weight 1;");
        x.spread(0, 20);
        oddsAre("20 are too few", x, 0, 0, 1, 1);
        x.spread(0, 1);
        oddsAre("21 are enough", x, 0, 0, 0, 1);
    }

    static void oddsAtTheLastStepAndOneBehindIt() {
        oddsAre("WHITE behind 72", behind(LATE + "slip 0 weight 1;", 4), 0, 0, 1, 1);
        oddsAre("WHITE behind 73", behind(LATE + "slip 0 weight 1;", 3), 0, 0, 0, 1);
    }

    // promise 16: plan

    private static void planIs(String what, WhiteRoads x, int yards, int salt, int... due) {
        for (int i = 0; i < 3; i++) {
            due(what + ": plan(" + yards + ", " + salt + ", " + i + ", 0)", x.plan(yards, salt, i, 0), due[i]);
        }
    }

    static void planOfAnotherWhat() {
        WhiteRoads x = Check.told(SHORT + "slip 0 weight 1;");
        for (int what : new int[] {-1, 3, LEAST, MOST}) {
            due("plan(1, 9, " + what + ", 0)", x.plan(1, 9, what, 0), GAP);
        }
    }

    static void planOfSetsThatCanBe() {
        WhiteRoads x = Check.told(Texts.roads(8) + "slip 0 weight 1;call 1;");
        planIs("none of 8", x, 0, 9, NONE, 0, 1);
        planIs("all of 8", x, 255, 9, NONE, 0, 1);
        for (int yards : new int[] {256, -1, 257, 512, LEAST, MOST}) {
            planIs("no set of 8", x, yards, 9, GAP, GAP, GAP);
        }
        x = Check.told(Texts.roads(1) + "slip 0 weight 1;call 1;");
        planIs("all of 1", x, 1, 9, NONE, 0, 1);
        planIs("no set of 1", x, 2, 9, GAP, GAP, GAP);
        x = Check.told("slip 0 weight 1;call 1;");
        planIs("none of none", x, 0, 9, NONE, 0, 1);
        planIs("no set of none", x, 1, 9, GAP, GAP, GAP);
    }

    static void planSalt0To99() {
        WhiteRoads x = Check.told(SHORT + "slip 0 weight 1;call 1;harm 2;");
        planIs("SALT 0", x, 1, 0, NONE, 2, 1);
        planIs("SALT 20", x, 1, 20, NONE, 2, 1);
        planIs("SALT 21", x, 1, 21, 0, 1, 1);
        planIs("SALT 99", x, 1, 99, 0, 1, 1);
        for (int salt : new int[] {-1, 100, LEAST, MOST}) {
            planIs("no SALT", x, 1, salt, GAP, GAP, GAP);
        }
    }

    static void planIfNoSlipIsLeft() {
        planIs("no SLIP", Check.told(SHORT), 1, 9, GAP, GAP, GAP);
        WhiteRoads x = Check.told(SHORT + "slip 0 weight 1;harm 3;call 9;");
        x.later(2);
        x.read(0, 0, 0, -11, 0);
        for (int what = 0; what < 3; what++) {
            due("none is LEFT at 2", x.plan(1, 9, what, 2), GAP);
            due("one is LEFT at 1", x.plan(1, 9, what, 1), new int[] {NONE, 3, 1}[what]);
            due("one is LEFT before all", x.plan(1, 9, what, LEAST), new int[] {NONE, 3, 1}[what]);
            due("none is LEFT later", x.plan(1, 9, what, MOST), GAP);
        }
    }

    /** Thrown off until it falls: too early does not help. */
    private static final String THROWN = Texts.yard("a", "road", 0, 19, "-14") + Texts.hours(4, 0, -14, 0) + Texts.hour(2, -14, 0)
        + Texts.hour(0, -14, 0) + "slip 0 weight 1;";

    static void planCalledBehindStep24AndNotBehind25() {
        for (int salt : new int[] {33, 30}) {
            for (int step = 20; step <= 25; step++) {
                boolean helps = whiteInEarnest(THROWN, 0, 0, salt, step) == NONE;
                due(salt + " in earnest behind " + step, helps ? 1 : 0, step >= (salt == 33 ? 24 : 25) ? 1 : 0);
            }
        }
        planIs("behind STEP 24", Check.told(THROWN + "harm 5;call 1;"), 1, 33, 24, 1, 1);
        planIs("not behind STEP 25", Check.told(THROWN + "harm 5;call 1;"), 1, 30, NONE, 5, 1);
    }

    static void planOfLikeOnesTheFirstStepAndNotToCallLast() {
        planIs("all alike", Check.told(ROAD + "slip 0 weight 1;"), 1, 9, 0, 0, 1);
        planIs("harm alone", Check.told(SHORT + "slip 0 weight 1;harm 9;"), 1, 0, 0, 9, 1);
        planIs("no YARD", Check.told(SHORT + "slip 0 weight 1;harm 9;"), 0, 99, 0, 0, 1);
        planIs("as dear", Check.told(SHORT + "slip 0 weight 1;harm 9;call 9;"), 1, 99, 0, 9, 1);
        planIs("dearer", Check.told(SHORT + "slip 0 weight 1;harm 8;call 9;"), 1, 99, NONE, 8, 1);
        planIs("cheaper", Check.told(SHORT + "slip 0 weight 1;harm 10;call 9;"), 1, 99, 0, 9, 1);
        // 23 helps behind STEPS 0 and 1, 50 behind 22 and later ones
        planIs("the first of two", Check.told(SHORT + "slip 0 weight 1;harm 10;call 9;"), 1, 23, 0, 9, 1);
        planIs("the first that helps", Check.told(THROWN + "harm 10;call 9;"), 1, 50, 22, 9, 1);
    }

    static void planCheaperByOneIsCheaper() {
        planIs("behind STEP 22 rather than 0", Check.told(THROWN + "harm 1;"), 1, 50, 22, 0, 1);
        planIs("called rather than not", Check.told(SHORT + "slip 0 weight 1;harm 2;call 1;"), 1, 99, 0, 1, 1);
    }

    static void planWithTheSaltThatThereIs() {
        WhiteRoads x = Check.told(SHORT + "slip 0 weight 1;harm 9;call 5;");
        x.spread(0, 20);
        planIs("20 are too few", x, 1, 0, NONE, 9, 1);
        planIs("1 more is enough", x, 1, 1, 0, 5, 1);
        x.spread(0, 1);
        planIs("21 are enough", x, 1, 0, NONE, 0, 1);
        planIs("21 are enough, and no more", x, 1, 99, NONE, 0, 1);
    }

    static void planOfTheseYardsAlone() {
        // a and c are WHITE, if not salted, b never is
        String text = ROAD + Texts.yard("b", "road", 0, 0, "200 200 200 200 200") + Texts.yard("c", "road", 0, 0, "-10") + SHORT_FALL
            + "slip 0 weight 1;harm 9;call 12;";
        int[] due = {0, 9, 0, 9, 9, 18, 9, 18};
        for (int set = 0; set < 8; set++) {
            planIs("not called", Check.told(text), set, 0, NONE, due[set], 1);
        }
        planIs("called for two", Check.told(text), 5, 99, 0, 12, 1);
        planIs("not called for one", Check.told(text), 3, 99, NONE, 9, 1);
    }

    static void planOfThoseLeftAlone() {
        // WHITE by 0, not by 30; behind STEP 1 it is at -10 by 0 and at -3 by 30
        WhiteRoads x = Check.told(SHORT + "slip 0 weight 6;slip 30 weight 3;harm 5;call 100;");
        planIs("both", x, 1, 99, NONE, 10, 3);
        x.read(0, 0, 1, -10, 0);
        planIs("SLIP 0", x, 1, 99, NONE, 5, 1);
        x.untell(0);
        x.read(0, 0, 1, -3, 0);
        planIs("SLIP 30", x, 1, 99, NONE, 0, 1);
    }

    static void planOfOneBeforeIsForgotten() {
        WhiteRoads x = Check.told(THROWN + "harm 10;call 9;");
        planIs("called", x, 1, 50, 22, 9, 1);
        planIs("not called", x, 1, 0, NONE, 10, 1);
        planIs("called", x, 1, 33, 24, 9, 1);
        planIs("not called", x, 0, 50, NONE, 0, 1);
    }

    static void planCallAndHarmNotToldAre0() {
        planIs("no harm", Check.told(SHORT + "slip 0 weight 1;call 1;"), 1, 99, NONE, 0, 1);
        planIs("no call", Check.told(SHORT + "slip 0 weight 1;harm 1;"), 1, 99, 0, 0, 1);
    }

    static void planAsDearAsCanBe() {
        StringBuilder text = new StringBuilder();
        for (int i = 0; i < 8; i++) {
            text.append(Texts.yard(Texts.letter(i), "road", 0, 0, "-50"));
        }
        text.append(Texts.hour(99, -50, 0)).append("call 9999;harm 9999;");
        for (int i = 0; i < 7; i++) {
            text.append(Texts.slip(-i, 99));
        }
        planIs("all WHITE by all", Check.told(text.toString()), 255, 99, NONE, 8 * 9999, 1);
    }

    static void planMeanCostInLowestTerms() {
        // WHITE by 0, not by 30
        planIs("6 of 9", Check.told(SHORT + "slip 0 weight 6;slip 30 weight 3;harm 5;call 100;"), 1, 99, NONE, 10, 3);
        planIs("1 of 100", Check.told(SHORT + "slip 0 weight 1;slip 30 weight 99;harm 9999;call 9999;"), 1, 99, NONE, 9999, 100);
        planIs("0", Check.told(ROAD + "slip 0 weight 6;slip 30 weight 3;harm 5;call 100;"), 1, 99, NONE, 0, 1);
        planIs("called", Check.told(SHORT + "slip 0 weight 6;slip 30 weight 3;harm 5;call 3;"), 1, 99, 0, 3, 1);
    }

    static void planWhiteAtTheLastStepAndOneBehindIt() {
        planIs("WHITE behind 72", behind(LATE + "slip 0 weight 1;harm 5;call 9;", 4), 1, 0, NONE, 5, 1);
        planIs("WHITE behind 73", behind(LATE + "slip 0 weight 1;harm 5;call 9;", 3), 1, 0, NONE, 0, 1);
    }

    static void planIsNotBoundByTheStore() {
        planIs("the store is empty", Check.told(SHORT + "slip 0 weight 1;harm 5;call 1;store 0;"), 1, 99, 0, 1, 1);
    }
}
