import java.util.Arrays;

/** Boundary cases of all promises: what a refused call answers, that it changes nothing, and that asking changes nothing. */
public final class EdgeRefusedTest {
    private static final int NONE = WhiteRoads.NONE;
    private static final int GAP = WhiteRoads.GAP;
    private static final int LEAST = Integer.MIN_VALUE;
    private static final int MOST = Integer.MAX_VALUE;
    private static final Check CHECK = new Check();
    /** c can't be come to. */
    private static final String LAND = Texts.yard("a", "road", 40, 20, "-10 -5") + Texts.yard("b", "bridge", 99, 0, "0 5 9")
        + Texts.yard("c", "grass", 0, 0, "4") + Texts.way("a", "b", 7) + Texts.hour(3, -10, 2) + Texts.hour(1, 4, 0) + Texts.slip(0, 2)
        + Texts.slip(-20, 3) + Texts.slip(20, 1) + "call 3;harm 5;depot a;store 120;";
    private static final String TAPE = "store 4;store 5;";

    public static void main(String[] args) {
        CHECK.runAll(EdgeRefusedTest.class);
    }

    /** An object with something of everything: BOX 1 is empty, GLASS 1 is UNTOLD, the latest land() had a FAULT. */
    private static WhiteRoads busy() {
        WhiteRoads x = Check.told(LAND);
        x.shift(7);
        x.run(4);
        x.spread(0, 30);
        x.later(3);
        x.read(0, 0, 1, -10, 3);
        x.read(1, 2, 5, 9, 99);
        x.image(0);
        x.run(2);
        x.image(2);
        x.later(2);
        x.untell(1);
        x.shift(-4);
        x.run(3);
        x.round(3, 20, 0);
        Check.tell(x, " $");
        Check.put(x, TAPE);
        return x;
    }

    private static void call(WhiteRoads x, int due, String name, int... args) {
        CHECK.due(name + Arrays.toString(args), Check.call(x, name, args), due);
    }

    /** A call that answers so, and leaves all but one part. */
    private static void leavesAllBut(String part, int due, String name, int... args) {
        WhiteRoads x = busy();
        call(x, due, name, args);
        CHECK.due("all behind " + name + Arrays.toString(args), Probe.allBut(x, part), Probe.allBut(busy(), part));
    }

    private static void refused(int due, String name, int... args) {
        leavesAllBut("", due, name, args);
    }

    /** Each argument in turn takes each value that can't be, the others being as given. */
    private static void refusedEach(int due, String name, int[] can, int[]... cannot) {
        for (int i = 0; i < cannot.length; i++) {
            for (int value : cannot[i]) {
                int[] args = can.clone();
                args[i] = value;
                refused(due, name, args);
            }
        }
    }

    private static int[] no(int... values) {
        int[] all = Arrays.copyOf(values, values.length + 2);
        all[values.length] = LEAST;
        all[values.length + 1] = MOST;
        return all;
    }

    static void probesSeeWhatChanges() {
        String[] changes = {"feed 0 0 0 0 0", "end 8", "land", "run 1", "shift 1", "spread 0 1", "round 1 5 0", "read 0 0 0 0 0", "untell 0",
            "later 1", "image 0", "image 1", "image 2", "back 0", "back 2"};
        String before = Probe.all(busy());
        for (String change : changes) {
            String[] words = change.split(" ");
            int[] args = new int[words.length - 1];
            for (int i = 0; i < args.length; i++) {
                args[i] = Integer.parseInt(words[i + 1]);
            }
            WhiteRoads x = busy();
            Check.call(x, words[0], args);
            CHECK.due(change + " is seen", Probe.all(x).equals(before), false);
        }
        CHECK.due("nothing is seen, if nothing is done", Probe.all(busy()), before);
    }

    static void feedRefused() {
        WhiteRoads x = busy();
        WhiteRoads y = busy();
        for (int i = 0; i < 84; i++) {
            x.feed(i, i, i, i, i);
            y.feed(i, i, i, i, i);
        }
        CHECK.due("bytes", x.about(8), TAPE.length() + 1680);
        call(x, NONE, "feed", 0x24242424, 0, 0, 0, 0);
        CHECK.due("all", Probe.all(x), Probe.all(y));
    }

    static void endRefused() {
        refusedEach(NONE, "end", new int[] {0}, no(-1, TAPE.length() + 1));
    }

    static void runRefused() {
        refusedEach(NONE, "run", new int[] {0}, no(-1, 145));
    }

    static void runRefusedBeyond720() {
        WhiteRoads x = busy();
        WhiteRoads y = busy();
        for (int i = 0; i < 4; i++) {
            x.run(144);
            y.run(144);
        }
        CHECK.due("STEPS", x.about(4), 585);
        call(x, NONE, "run", 136);
        CHECK.due("all", Probe.all(x), Probe.all(y));
    }

    static void shiftRefused() {
        refusedEach(GAP, "shift", new int[] {0}, no(-51, 51));
    }

    static void spreadRefused() {
        refusedEach(NONE, "spread", new int[] {0, 5}, no(-1, 3), no(-1, 0, 91, 99, 100));
    }

    static void readRefused() {
        refusedEach(NONE, "read", new int[] {1, 2, 72, 999, 99}, no(-1, 3), no(-1, 3), no(-1, 73), no(-1000, 1000), no(-1, 100));
        refused(NONE, "read", 0, 2, 0, 0, 0);
        refused(NONE, "read", 2, 1, 0, 0, 0);
    }

    static void readRefusedBehindThirty() {
        WhiteRoads x = busy();
        WhiteRoads y = busy();
        for (int i = 2; i < 30; i++) {
            call(x, i, "read", 0, 1, 0, -5, 0);
            y.read(0, 1, 0, -5, 0);
        }
        call(x, NONE, "read", 0, 1, 0, 99, 0);
        CHECK.due("all", Probe.all(x), Probe.all(y));
    }

    static void untellRefused() {
        refusedEach(0, "untell", new int[] {0}, no(-1, 1, 2, 30));
    }

    static void laterRefused() {
        refusedEach(NONE, "later", new int[] {0}, no(-1, 1001));
    }

    static void laterRefusedAbove100000() {
        WhiteRoads x = busy();
        WhiteRoads y = busy();
        for (int i = 0; i < 99; i++) {
            x.later(1000);
            y.later(1000);
        }
        call(x, NONE, "later", 996);
        CHECK.due("all", Probe.all(x), Probe.all(y));
    }

    static void imageRefused() {
        refusedEach(NONE, "image", new int[] {0}, no(-1, 3));
    }

    static void backRefused() {
        refusedEach(NONE, "back", new int[] {0}, no(-1, 1, 3));
    }

    static void roundRefusedTakesTheOrderAwayAndNothingElse() {
        int[][] rows = {{8, 5, 0}, {-1, 5, 0}, {LEAST, 5, 0}, {MOST, 5, 0}, {4, 5, 0}, {7, 5, 1}, {3, -1, 0}, {3, 100, 0}, {3, LEAST, 0},
            {3, MOST, 0}, {3, 5, -1}, {3, 5, 2}, {3, 5, LEAST}, {3, 5, MOST}};
        for (int[] row : rows) {
            leavesAllBut("order", NONE, "round", row);
            WhiteRoads x = busy();
            CHECK.due("an order before", x.about(10), 2);
            x.round(row[0], row[1], row[2]);
            CHECK.due("YARDS of the order", x.about(10), 0);
            CHECK.due("lies(0)", x.lies(0), NONE);
        }
    }

    static void roundLeavesAllButTheOrder() {
        leavesAllBut("order", 0, "round", 1, 99, 1);
        leavesAllBut("order", 0, "round", 0, 0, 0);
        leavesAllBut("order", 7, "round", 3, 0, 1);
    }

    static void imageLeavesAllButTheBox() {
        for (int box = 0; box < 3; box++) {
            leavesAllBut("box", 9, "image", box);
        }
    }

    static void laterLeavesAllButTheTime() {
        leavesAllBut("time", 5, "later", 0);
        leavesAllBut("time", 1005, "later", 1000);
    }

    static void readLeavesAllButTheGlasses() {
        leavesAllBut("glass", 2, "read", 2, 0, 72, 5, 9);
    }

    static void untellLeavesAllButTheGlasses() {
        leavesAllBut("glass", 1, "untell", 0);
    }

    static void feedAndEndLeaveAllButTheTape() {
        leavesAllBut("tape", TAPE.length() + 20, "feed", 1, 2, 3, 4, 5);
        leavesAllBut("tape", 8, "end", 8);
        leavesAllBut("tape", 0, "end", 0);
        refused(TAPE.length(), "end", TAPE.length());
    }

    static void runOf0LeavesAll() {
        refused(9, "run", 0);
    }

    static void yardAndWarmLeaveAll() {
        refusedEach(NONE, "yard", new int[] {0, 0}, no(-1, 3), no(-1, 7));
        refusedEach(GAP, "warm", new int[] {0, 0}, no(-1, 3), no(-1, 2));
        refused(1, "yard", 2, 6);
    }

    static void whenDeepLeastLatestLeaveAll() {
        refusedEach(NONE, "when", new int[] {0, 0}, no(-1, 3), no(-51, 51));
        refusedEach(NONE, "deep", new int[] {0, 0, 0}, no(-1, 3), no(-51, 51), no(-1, 73));
        refusedEach(NONE, "least", new int[] {0, 0}, no(-1, 3), no(-51, 51));
        refusedEach(NONE, "latest", new int[] {0, 0, 0}, no(-1, 3), no(-51, 51), no(-1, 100));
    }

    static void whatWouldBeLeavesWhatThereIs() {
        for (int by : new int[] {-50, 0, 50}) {
            WhiteRoads x = busy();
            for (int yard = 0; yard < 3; yard++) {
                x.when(yard, by);
                x.deep(yard, by, 72);
                x.least(yard, by);
                x.latest(yard, by, 99);
                x.odds(yard, 0, by);
                x.open(yard, 1, 71);
            }
            x.plan(7, 99, 1, by);
            x.tells(72, 2, by);
            x.left(by);
            CHECK.due("all by " + by, Probe.all(x), Probe.all(busy()));
        }
    }

    static void oddsPlanTellsLeaveAll() {
        refusedEach(NONE, "odds", new int[] {0, 0, 0}, no(-1, 3), no(-1, 2));
        refusedEach(GAP, "plan", new int[] {7, 9, 0, 0}, no(-1, 8), no(-1, 100), no(-1, 3));
        refusedEach(NONE, "tells", new int[] {0, 0, 0}, no(-1, 73), no(-1, 3));
    }

    static void openLeavesAll() {
        refusedEach(NONE, "open", new int[] {0, 1, 0}, no(-1, 2, 3), no(-1, 2, 3), no(-1, 72));
    }

    static void liesFaultAboutLeaveAll() {
        refusedEach(NONE, "lies", new int[] {0}, no(-1, 2, 7));
        refusedEach(NONE, "fault", new int[] {0}, no(-1, 2));
        refusedEach(NONE, "about", new int[] {0}, no(-1, 11));
    }
}
