/** Promises 11 to 16: WHAT WOULD BE, and what is best by SLIPS. */
public final class WouldTest {
    private static final int NONE = WhiteRoads.NONE;
    private static final int GAP = WhiteRoads.GAP;
    private static final Check CHECK = new Check();
    private static final String ROAD = "yard a road slope 0 traffic 0 warm -10;";
    private static final String SHORT_FALL = "hour fall 2 temp -10 wet 0;hour fall 0 temp -10 wet 0;";
    /** WHITE now, behind 6 STEPS, and melted behind the next one. */
    private static final String SOON_GONE = "yard a grass slope 0 traffic 0 warm 0;"
        + "hour fall 2 temp 0 wet 0;hour fall 0 temp 200 wet 0;slip 0 weight 1;harm 9;";

    public static void main(String[] args) {
        when();
        deep();
        least();
        latest();
        nowDoesNotCount();
        leavesWhatThereIs();
        odds();
        plan();
        planOfLikeOnes();
        planCalledLater();
        planKeepsUp();
        CHECK.finish("WouldTest");
    }

    private static void due(String what, long got, long due) {
        CHECK.due(what, got, due);
    }

    private static void when() {
        WhiteRoads x = Check.told(ROAD + SHORT_FALL);
        due("when(0, 0)", x.when(0, 0), 5);
        due("when(0, 17)", x.when(0, 17), 6);
        due("when(0, 19): not at all", x.when(0, 19), NONE);
        due("when(0, -50)", x.when(0, -50), 5);
        due("when(0, -51)", x.when(0, -51), NONE);
        due("when(0, 51)", x.when(0, 51), NONE);
        due("when(1, 0)", x.when(1, 0), NONE);
        due("when(-1, 0)", x.when(-1, 0), NONE);
        x.run(3);
        due("from now", x.when(0, 0), 2);
        x.run(3);
        due("WHITE already", x.when(0, 0), 1);
        // it falls from STEP 67 on
        String dry = "hour fall 0 temp -10 wet 0;".repeat(11);
        x = Check.told(ROAD + dry + "hour fall 2 temp -10 wet 0;");
        due("late", x.when(0, 0), 71);
        x = Check.told(ROAD + dry + "hour fall 1 temp -10 wet 0;");
        due("too late", x.when(0, 0), NONE);
        x.run(3);
        due("too late by a STEP", x.when(0, 0), NONE);
        x.run(1);
        due("at the last STEP", x.when(0, 0), 72);
    }

    private static void deep() {
        WhiteRoads x = Check.told(ROAD + SHORT_FALL);
        for (int i = 0; i <= 72; i++) {
            due("deep(0, 0, " + i + ")", x.deep(0, 0, i), 2 * Math.min(i, 6));
        }
        due("deep(0, 50, 72)", x.deep(0, 50, 72), 0);
        due("deep(0, 0, 73)", x.deep(0, 0, 73), NONE);
        due("deep(0, 0, -1)", x.deep(0, 0, -1), NONE);
        due("deep(0, 51, 0)", x.deep(0, 51, 0), NONE);
        due("deep(0, -51, 0)", x.deep(0, -51, 0), NONE);
        due("deep(1, 0, 0)", x.deep(1, 0, 0), NONE);
        due("deep(-1, 0, 0)", x.deep(-1, 0, 0), NONE);
        x.run(4);
        due("deep now", x.deep(0, 0, 0), 8);
        due("deep from now", x.deep(0, 0, 1), 10);
    }

    private static void least() {
        WhiteRoads x = Check.told(ROAD + SHORT_FALL);
        due("least(0, 0)", x.least(0, 0), 21);
        due("least(0, -20)", x.least(0, -20), 33);
        due("least(0, 17)", x.least(0, 17), 3);
        due("least(0, 19)", x.least(0, 19), 0);
        due("least(0, 51)", x.least(0, 51), NONE);
        due("least(0, -51)", x.least(0, -51), NONE);
        due("least(1, 0)", x.least(1, 0), NONE);
        due("least(-1, 0)", x.least(-1, 0), NONE);
        x.spread(0, 10);
        due("with what is spread already", x.least(0, 0), 11);
        x = Check.told(ROAD + "hour fall 9 temp -200 wet 0;");
        due("99 are not enough", x.least(0, 0), NONE);
        x = Check.told("yard a road slope 0 traffic 0 warm 0;hour fall 4 temp -27 wet 0;hour fall 0 temp -10 wet 0;");
        due("99 are just enough", x.least(0, 0), 99);
    }

    private static void latest() {
        WhiteRoads x = Check.told(ROAD + SHORT_FALL);
        int[] salts = {0, 20, 21, 22, 23, 25, 26, 28, 29, 31, 32, 99};
        int[] steps = {NONE, NONE, 0, 0, 1, 1, 2, 2, 3, 3, 4, 4};
        for (int i = 0; i < salts.length; i++) {
            due("latest(0, 0, " + salts[i] + ")", x.latest(0, 0, salts[i]), steps[i]);
        }
        due("it can wait for ever", x.latest(0, 19, 0), 71);
        due("latest(0, 0, 100)", x.latest(0, 0, 100), NONE);
        due("latest(0, 0, -1)", x.latest(0, 0, -1), NONE);
        due("latest(0, 51, 99)", x.latest(0, 51, 99), NONE);
        due("latest(0, -51, 99)", x.latest(0, -51, 99), NONE);
        due("latest(1, 0, 99)", x.latest(1, 0, 99), NONE);
        due("latest(-1, 0, 99)", x.latest(-1, 0, 99), NONE);
        x.run(2);
        due("from now", x.latest(0, 0, 99), 2);
        // a SALT that helps behind STEPS 4 .. 7 alone, not before
        x = Check.told("yard a bridge slope 0 traffic 8 warm -28;hour fall 1 temp -14 wet 3;"
            + "hour fall 2 temp -23 wet 4;hour fall 0 temp -2 wet 0;");
        due("too early doesn't help either", x.latest(0, 0, 78), 7);
    }

    private static void nowDoesNotCount() {
        WhiteRoads x = Check.told(SOON_GONE);
        x.run(6);
        due("WHITE now", x.yard(0, 4), 1);
        due("but behind no STEP to come", x.when(0, 0), NONE);
        due("no SALT is needed", x.least(0, 0), 0);
        due("it can wait", x.latest(0, 0, 9), 71);
        due("no odds", x.odds(0, 0, 0), 0);
        due("no harm", x.plan(1, 9, 1, 0), 0);
    }

    private static void leavesWhatThereIs() {
        WhiteRoads x = Check.told(ROAD + SHORT_FALL + "slip 0 weight 1;call 1;harm 9;depot a;");
        x.run(2);
        x.when(0, 9);
        x.deep(0, 9, 40);
        x.least(0, 9);
        x.latest(0, 9, 50);
        x.odds(0, 0, 0);
        x.plan(1, 50, 0, 0);
        x.round(1, 50, 0);
        x.open(0, 0, 50);
        x.tells(50, 0, 0);
        due("STEPS", x.about(4), 2);
        due("the store", x.about(5), 999);
        due("SNOW", x.yard(0, 1), 4);
        due("SALT", x.yard(0, 3), 0);
        due("warmth", x.warm(0, 0), -10);
        due("SHIFT", x.shift(0), 0);
    }

    private static void odds() {
        WhiteRoads x = Check.told(ROAD + "yard b road slope 0 traffic 0 warm 200 200 200 200 200;" + SHORT_FALL
            + "slip 0 weight 6;slip 19 weight 3;slip -5 weight 4;slip 30 weight 2;");
        due("odds: upper part", x.odds(0, 0, 0), 2);
        due("odds: lower part", x.odds(0, 1, 0), 3);
        due("odds: never, upper part", x.odds(1, 0, 0), 0);
        due("odds: never, lower part", x.odds(1, 1, 0), 1);
        due("odds(0, 2, 0)", x.odds(0, 2, 0), NONE);
        due("odds(0, -1, 0)", x.odds(0, -1, 0), NONE);
        due("odds(2, 0, 0)", x.odds(2, 0, 0), NONE);
        due("odds(-1, 0, 0)", x.odds(-1, 0, 0), NONE);
        // behind STEP 1 the road a is at -10 by 0, -6 by 19, -11 by -5, -3 by 30
        x.later(5);
        x.read(0, 0, 1, -10, 1);
        due("as known at 5: upper part", x.odds(0, 0, 5), 1);
        due("as known at 5: lower part", x.odds(0, 1, 5), 1);
        due("as known at 4: upper part", x.odds(0, 0, 4), 2);
        due("as known at 4: lower part", x.odds(0, 1, 4), 3);
        x.read(0, 0, 1, 10, 1);
        due("no SLIP is LEFT", x.odds(0, 0, 5), NONE);
        due("no SLIP is LEFT", x.odds(0, 1, 5), NONE);
        x = Check.told(ROAD + SHORT_FALL);
        due("no SLIP at all", x.odds(0, 0, 0), NONE);
        x = Check.told(ROAD + SHORT_FALL + "slip 0 weight 7;slip -9 weight 5;");
        due("for certain, upper part", x.odds(0, 0, 0), 1);
        due("for certain, lower part", x.odds(0, 1, 0), 1);
        x = Check.told(ROAD + SHORT_FALL + "slip 0 weight 7;call 5;harm 6;");
        x.spread(0, 20);
        due("1 would be enough", x.least(0, 0), 1);
        due("but none is spread", x.odds(0, 0, 0), 1);
        planned("it is called for 1", x, 1, 1, 0, 0, 5, 1);
        planned("none is spread", x, 1, 0, 0, NONE, 6, 1);
    }

    private static void planned(String what, WhiteRoads x, int yards, int salt, int k, int... due) {
        for (int i = 0; i < 3; i++) {
            due(what + ": plan(" + yards + ", " + salt + ", " + i + ", " + k + ")", x.plan(yards, salt, i, k), due[i]);
        }
    }

    private static void plan() {
        WhiteRoads x = Check.told(ROAD + "yard b road slope 0 traffic 0 warm -10;yard c grass slope 0 traffic 0 warm 200;"
            + SHORT_FALL + "slip 0 weight 6;slip 19 weight 3;call 10;harm 20;");
        // by SLIP 0 the roads are WHITE, if not salted
        planned("one road", x, 1, 99, 0, 0, 10, 1);
        planned("two roads", x, 3, 99, 0, 0, 10, 1);
        planned("no SALT", x, 3, 0, 0, NONE, 80, 3);
        planned("too little SALT", x, 1, 20, 0, NONE, 40, 3);
        planned("enough SALT", x, 1, 21, 0, 0, 10, 1);
        planned("grass is safe", x, 4, 99, 0, NONE, 0, 1);
        planned("no YARDS", x, 0, 99, 0, NONE, 0, 1);
        planned("all", x, 7, 99, 0, 0, 10, 1);
        planned("no such YARD", x, 8, 99, 0, GAP, GAP, GAP);
        planned("no such set", x, -1, 99, 0, GAP, GAP, GAP);
        planned("no such SALT", x, 1, 100, 0, GAP, GAP, GAP);
        planned("no such SALT", x, 1, -1, 0, GAP, GAP, GAP);
        due("plan(1, 9, 3, 0)", x.plan(1, 9, 3, 0), GAP);
        due("plan(1, 9, -1, 0)", x.plan(1, 9, -1, 0), GAP);
        x.later(1);
        // behind STEP 1 a is at -6 by SLIP 19
        x.read(0, 0, 1, -6, 0);
        planned("by SLIP 19 alone", x, 3, 99, 1, NONE, 0, 1);
        planned("as known before", x, 3, 99, 0, 0, 10, 1);
        x.read(0, 0, 1, 60, 0);
        planned("no SLIP is LEFT", x, 3, 99, 1, GAP, GAP, GAP);
        x = Check.told(ROAD);
        planned("no SLIP at all", x, 1, 99, 0, GAP, GAP, GAP);
    }

    private static void planOfLikeOnes() {
        WhiteRoads x = Check.told(ROAD + SHORT_FALL + "slip 0 weight 6;slip 19 weight 3;harm 20;");
        planned("not to call comes last", x, 0, 99, 0, 0, 0, 1);
        planned("no SALT, no cost", x, 1, 0, 0, 0, 40, 3);
        x = Check.told(ROAD + SHORT_FALL + "slip 0 weight 1;slip 19 weight 1;call 10;harm 20;");
        planned("as dear as not to call", x, 1, 99, 0, 0, 10, 1);
        x = Check.told(ROAD + SHORT_FALL + "slip 0 weight 1;slip 19 weight 1;call 11;harm 20;");
        planned("dearer than not to call", x, 1, 99, 0, NONE, 10, 1);
        x = Check.told(ROAD + SHORT_FALL + "slip 0 weight 1;call 11;");
        planned("no harm", x, 1, 99, 0, NONE, 0, 1);
    }

    private static void planCalledLater() {
        String bridge = "yard a bridge slope 0 traffic 8 warm -28;hour fall 1 temp -14 wet 3;"
            + "hour fall 2 temp -23 wet 4;hour fall 0 temp -2 wet 0;slip 0 weight 1;harm 5;";
        planned("not too early", Check.told(bridge), 1, 78, 0, 4, 0, 1);
        planned("though it costs but 1", Check.told(bridge.replace("harm 5", "harm 1")), 1, 78, 0, 4, 0, 1);
        String dry = "hour fall 0 temp -14 wet 0;".repeat(4);
        // thrown off until it falls: SALT has to come late, but behind STEP 24 at the latest
        String late = "yard a road slope 0 traffic 19 warm -14;" + dry
            + "hour fall 2 temp -14 wet 0;hour fall 0 temp -14 wet 0;slip 0 weight 1;harm 5;";
        WhiteRoads x = Check.told(late);
        due("the latest is later", x.latest(0, 0, 50), 28);
        planned("late enough", x, 1, 50, 0, 22, 0, 1);
        planned("at the last STEP to call", x, 1, 33, 0, 24, 0, 1);
        due("only later", x.latest(0, 0, 30), 25);
        planned("too late to call", x, 1, 30, 0, 0, 5, 1);
    }

    /** The same question behind each change of what there is. */
    private static void planKeepsUp() {
        WhiteRoads x = Check.told(ROAD + SHORT_FALL + "slip 0 weight 1;call 10;harm 20;");
        planned("at first", x, 1, 30, 0, 0, 10, 1);
        x.image(0);
        x.run(3);
        planned("behind 3 STEPS", x, 1, 30, 0, 0, 10, 1);
        x.run(1);
        planned("behind 4 STEPS", x, 1, 30, 0, NONE, 20, 1);
        x.spread(0, 99);
        planned("behind SALT", x, 1, 30, 0, NONE, 0, 1);
        x.back(0);
        planned("back again", x, 1, 30, 0, 0, 10, 1);
        Check.tell(x, ROAD + SHORT_FALL + "slip 0 weight 1;call 15;harm 20;");
        planned("another LAND", x, 1, 30, 0, 0, 15, 1);
    }
}
