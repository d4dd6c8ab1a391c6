/** Boundary cases of promises 17 to 19: one test for each. */
public final class EdgeWaysTest {
    private static final int NONE = WhiteRoads.NONE;
    private static final int LEAST = Integer.MIN_VALUE;
    private static final int MOST = Integer.MAX_VALUE;
    private static final Check CHECK = new Check();
    /** 12 of SNOW fall in the first HOUR on -10, and no more. */
    private static final String SHORT_FALL = Texts.hour(2, -10, 0) + Texts.hour(0, -10, 0);

    public static void main(String[] args) {
        CHECK.runAll(EdgeWaysTest.class);
    }

    private static void due(String what, long got, long due) {
        CHECK.due(what, got, due);
    }

    private static void liesThere(WhiteRoads x, int... order) {
        due("YARDS of the order", x.about(10), order.length);
        for (int i = 0; i < order.length; i++) {
            due("lies(" + i + ")", x.lies(i), order[i]);
        }
        due("lies behind the last", x.lies(order.length), NONE);
    }

    /** NONE, and the order that lay there is gone. */
    private static void noRound(String what, WhiteRoads x, int yards, int salt, int asked) {
        due("an order before", x.round(1, 5, 0), 0);
        due("it lies there", x.about(10), 1);
        due(what, x.round(yards, salt, asked), NONE);
        liesThere(x);
    }

    private static String cold(String name) {
        return Texts.yard(name, "road", 0, 0, "-10");
    }

    // promise 17: round

    private static WhiteRoads three() {
        return Check.told(Texts.roads(3) + "way a b takes 5;way b c takes 7;depot a;");
    }

    static void roundWhat0And1() {
        WhiteRoads x = three();
        due("how many are WHITE", x.round(6, 5, 0), 0);
        liesThere(x, 1, 2);
        due("minutes", x.round(6, 5, 1), 12);
        liesThere(x, 1, 2);
    }

    static void roundOfAnotherWhat() {
        for (int what : new int[] {-1, 2, LEAST, MOST}) {
            noRound("round(6, 5, " + what + ")", three(), 6, 5, what);
        }
    }

    static void roundSalt0To99() {
        due("SALT 0", three().round(7, 0, 1), 12);
        due("SALT 99", three().round(7, 99, 1), 12);
        for (int salt : new int[] {-1, 100, LEAST, MOST}) {
            noRound("round(7, " + salt + ", 0)", three(), 7, salt, 0);
        }
    }

    static void roundOfNoYard() {
        WhiteRoads x = three();
        x.round(7, 5, 0);
        due("how many are WHITE", x.round(0, 5, 0), 0);
        liesThere(x);
        due("minutes", x.round(0, 5, 1), 0);
        liesThere(x);
    }

    static void roundOfSetsThatCanBe() {
        due("all of three", three().round(7, 5, 0), 0);
        for (int yards : new int[] {8, 15, -1, LEAST, MOST}) {
            noRound("round(" + yards + ", 5, 0)", three(), yards, 5, 0);
        }
    }

    /** Eight YARDS in a row, the depot at the end of it. */
    private static WhiteRoads eight() {
        StringBuilder text = new StringBuilder(Texts.roads(8));
        for (int i = 7; i > 0; i--) {
            text.append(Texts.way(Texts.letter(i), Texts.letter(i - 1), 60));
        }
        return Check.told(text + "depot h;");
    }

    static void roundOfSevenAndOfEight() {
        WhiteRoads x = eight();
        for (int left = 0; left < 8; left++) {
            due("all but " + left, x.round(255 - (1 << left), 5, 0), 0);
            due("YARDS of the order", x.about(10), 7);
        }
        due("the whole row", x.round(127, 5, 1), 420);
        liesThere(x, 6, 5, 4, 3, 2, 1, 0);
        x = eight();
        due("an order before", x.round(128, 5, 1), 0);
        liesThere(x, 7);
        due("all eight", x.round(255, 5, 0), NONE);
        liesThere(x);
        due("more than there are", x.round(256, 5, 0), NONE);
        due("more than there are", x.round(511, 5, 0), NONE);
    }

    static void roundWithoutADepot() {
        WhiteRoads x = Check.told(Texts.roads(2) + "way a b takes 5;");
        due("of one", x.round(1, 5, 0), NONE);
        due("of none", x.round(0, 5, 0), NONE);
        liesThere(x);
    }

    static void roundIfOneCannotBeComeTo() {
        String text = Texts.roads(4) + "way a b takes 5;way c d takes 5;depot a;";
        noRound("c", Check.told(text), 4, 5, 0);
        noRound("d among others", Check.told(text), 11, 5, 1);
        WhiteRoads x = Check.told(text);
        due("those that can", x.round(3, 5, 1), 5);
        due("the depot alone, without any way", Check.told(Texts.roads(1) + "depot a;").round(1, 5, 1), 0);
        x = Check.told(text + "way b c takes 60;");
        due("now all can", x.round(15, 5, 1), 70);
        liesThere(x, 0, 1, 2, 3);
    }

    static void roundByWaysThatTakeLeast() {
        String text = Texts.roads(3) + "way a b takes 30;way b c takes 30;depot a;";
        due("straight on", Check.told(text + "way a c takes 59;").round(4, 5, 1), 59);
        due("as long", Check.told(text + "way a c takes 60;").round(4, 5, 1), 60);
        text = Texts.roads(3) + "way a b takes 29;way b c takes 30;depot a;";
        due("round about", Check.told(text + "way a c takes 60;").round(4, 5, 1), 59);
    }

    static void roundPassesAYardWithoutSaltingIt() {
        // b comes behind c in no better order: it is passed on the way to c, and WHITE if it is not asked for
        WhiteRoads x = Check.told(Texts.road("a") + cold("b") + cold("c") + "way a b takes 1;way b c takes 1;depot a;" + SHORT_FALL);
        due("c alone", x.round(4, 99, 0), 0);
        liesThere(x, 2);
        due("both", x.round(6, 99, 1), 2);
        liesThere(x, 1, 2);
    }

    /** How many are WHITE if the only one is come to behind so many minutes with so much SALT. */
    private static int whiteBehind(int minutes, int salt) {
        return Check.told(Texts.road("d") + cold("a") + Texts.way("d", "a", minutes) + "depot d;" + SHORT_FALL).round(2, salt, 0);
    }

    static void roundMinutesToStepsAreCut() {
        // 22 are in time behind STEP 0 alone, 23 behind STEP 1 too, 26 behind STEP 2
        due("9 minutes", whiteBehind(9, 22), 0);
        due("10 minutes", whiteBehind(10, 22), 1);
        due("19 minutes", whiteBehind(19, 23), 0);
        due("20 minutes", whiteBehind(20, 23), 1);
        due("29 minutes", whiteBehind(29, 26), 0);
        due("30 minutes", whiteBehind(30, 26), 1);
    }

    /** Seven YARDS around the depot at 60 minutes, but one at so many: the last is come to behind 660 and twice that. */
    private static WhiteRoads star(int one) {
        StringBuilder text = new StringBuilder(Texts.road("a"));
        for (int i = 1; i < 8; i++) {
            text.append(cold(Texts.letter(i))).append(Texts.way("a", Texts.letter(i), i == 3 ? one : 60));
        }
        // the tenth of SNOW falls in the 72nd STEP from now
        WhiteRoads x = Check.told(text + Texts.hours(11, 0, -10, 0) + Texts.hour(1, -10, 0) + "depot a;");
        x.run(4);
        due("WHITE at the last STEP", x.when(1, 0), 72);
        return x;
    }

    static void roundSaltsBehindStep71AtMost() {
        due("23 are in time behind STEP 70", star(1).latest(1, 0, 23), 70);
        int[][] rows = {{24, 23, 708, 0}, {25, 23, 710, 1}, {29, 23, 718, 1}, {30, 23, 720, 1}, {24, 99, 708, 0}, {25, 99, 710, 0},
            {29, 99, 718, 0}, {30, 99, 720, 0}, {31, 99, 722, 0}, {60, 99, 780, 0}};
        for (int[] row : rows) {
            WhiteRoads x = star(row[0]);
            due("WHITE behind " + row[2] + " minutes by " + row[1], x.round(254, row[1], 0), row[3]);
            due("minutes", x.round(254, row[1], 1), row[2]);
        }
    }

    static void roundFewestWhiteBeforeLeastMinutes() {
        // far can wait till STEP 3 with 30, near needs none
        String text = Texts.road("d") + Texts.yard("near", "road", 0, 0, "60") + cold("far") + "way d near takes 10;depot d;" + SHORT_FALL;
        WhiteRoads x = Check.told(text + "way d far takes 39;");
        due("how late far can wait", x.latest(2, 0, 30), 3);
        due("WHITE", x.round(6, 30, 0), 0);
        liesThere(x, 2, 1);
        due("minutes", x.round(6, 30, 1), 88);
        x = Check.told(text + "way d far takes 40;");
        due("WHITE at 40 minutes anyhow", x.round(6, 30, 0), 1);
        liesThere(x, 1, 2);
        due("minutes", x.round(6, 30, 1), 60);
        x = Check.told(text + "way d far takes 19;");
        due("in time behind 39 minutes", x.round(6, 30, 0), 0);
        liesThere(x, 1, 2);
        due("minutes", x.round(6, 30, 1), 39);
    }

    static void roundLeastMinutesBeforeTheFirst() {
        String text = Texts.roads(3) + "depot a;";
        WhiteRoads x = Check.told(text + "way a b takes 6;way a c takes 5;");
        due("c is nearer by one", x.round(6, 5, 1), 16);
        liesThere(x, 2, 1);
        x = Check.told(text + "way a b takes 5;way a c takes 5;");
        due("alike", x.round(6, 5, 1), 15);
        liesThere(x, 1, 2);
    }

    static void roundOfLikeOnesTheFirstByNumbers() {
        StringBuilder text = new StringBuilder(Texts.roads(8));
        for (int i = 7; i > 0; i--) {
            text.append(Texts.way("a", Texts.letter(i), 7));
        }
        WhiteRoads x = Check.told(text + "depot a;");
        due("all alike", x.round(254, 5, 1), 91);
        liesThere(x, 1, 2, 3, 4, 5, 6, 7);
        due("the depot first", x.round(127, 5, 1), 77);
        liesThere(x, 0, 1, 2, 3, 4, 5, 6);
    }

    static void roundFindsAnyOrder() {
        // the depot and then the YARDS in a row: no other order takes as few minutes
        for (int stops = 1; stops <= 7; stops++) {
            int[] order = new int[stops];
            for (int i = 0; i < stops; i++) {
                order[i] = i + 1;
            }
            int count = 0;
            do {
                if (stops < 5 || count % (stops == 5 ? 7 : stops == 6 ? 41 : 293) == 0) {
                    foundInARow(order);
                }
                count++;
            } while (next(order));
            due("orders of " + stops, count, new int[] {1, 2, 6, 24, 120, 720, 5040}[stops - 1]);
        }
    }

    private static void foundInARow(int[] order) {
        StringBuilder text = new StringBuilder(Texts.roads(order.length + 1));
        for (int i = 0; i < order.length; i++) {
            text.append(Texts.way(Texts.letter(i == 0 ? 0 : order[i - 1]), Texts.letter(order[i]), 1));
        }
        WhiteRoads x = Check.told(text + "depot a;");
        due("minutes", x.round((1 << order.length + 1) - 2, 5, 1), order.length);
        liesThere(x, order);
    }

    private static boolean next(int[] order) {
        int i = order.length - 2;
        while (i >= 0 && order[i] > order[i + 1]) {
            i--;
        }
        if (i < 0) {
            return false;
        }
        int[] rest = java.util.Arrays.copyOfRange(order, i, order.length);
        int first = java.util.Arrays.stream(rest).filter(v -> v > rest[0]).min().getAsInt();
        int[] others = java.util.Arrays.stream(rest).filter(v -> v != first).sorted().toArray();
        order[i] = first;
        System.arraycopy(others, 0, order, i + 1, others.length);
        return true;
    }

    static void roundOfThoseThatAreWhiteAnyhow() {
        String text = cold("a") + cold("b") + cold("c") + "depot a;" + Texts.hour(10, -10, 0);
        WhiteRoads x = Check.told(text + "way a b takes 6;way a c takes 5;");
        due("all are WHITE", x.round(6, 99, 0), 2);
        liesThere(x, 2, 1);
        due("in least minutes", x.round(6, 99, 1), 16);
        x = Check.told(text + "way a b takes 5;way a c takes 5;");
        due("all are WHITE", x.round(7, 99, 0), 3);
        liesThere(x, 0, 1, 2);
        due("in least minutes", x.round(7, 99, 1), 15);
    }

    static void roundWithFewerMinutesIsNotBetterIfMoreAreWhite() {
        // the first order by numbers is the best: far (STEP 3), then near, which needs no SALT
        WhiteRoads x = Check.told(Texts.road("d") + cold("far") + Texts.yard("near", "road", 0, 0, "60") + "way d near takes 10;depot d;"
            + "way d far takes 39;" + SHORT_FALL);
        due("WHITE", x.round(6, 30, 0), 0);
        liesThere(x, 1, 2);
        due("minutes", x.round(6, 30, 1), 88);
    }

    static void roundTwoAtTheSameStepAreUnlike() {
        // both get SALT behind STEP 0; 22 are enough for the one at -10, not for the colder one
        WhiteRoads x = Check.told(cold("a") + Texts.yard("b", "road", 0, 0, "-200 -200 -200 -200 -200") + "way a b takes 1;depot a;" + SHORT_FALL);
        due("a alone", x.round(1, 22, 0), 0);
        due("b alone", x.round(2, 22, 0), 1);
        due("both", x.round(3, 22, 0), 1);
        x = Check.told(Texts.yard("b", "road", 0, 0, "-200 -200 -200 -200 -200") + cold("a") + "way a b takes 1;depot a;" + SHORT_FALL);
        due("both", x.round(3, 22, 0), 1);
    }

    static void roundFromADepotApartFromTheFirstYard() {
        WhiteRoads x = Check.told(Texts.roads(4) + "way a b takes 5;way c d takes 6;depot d;");
        due("c", x.round(4, 5, 1), 6);
        due("c and d", x.round(12, 5, 1), 6);
        liesThere(x, 3, 2);
        due("a", x.round(1, 5, 1), NONE);
        due("b and c", x.round(6, 5, 1), NONE);
    }

    static void roundIsByShift0ToATenth() {
        // WHITE by 0, not by 1; and WHITE by -1, not by 0
        WhiteRoads x = Check.told(cold("a") + "depot a;" + Texts.hour(2, 8, 0) + Texts.hour(0, 8, 0));
        due("by 1", x.when(0, 1), NONE);
        due("by 0", x.when(0, 0), 6);
        due("WHITE", x.round(1, 0, 0), 1);
        x = Check.told(cold("a") + "depot a;" + Texts.hour(2, 9, 0) + Texts.hour(0, 9, 0));
        due("by -1", x.when(0, -1), 6);
        due("by 0", x.when(0, 0), NONE);
        due("not WHITE", x.round(1, 0, 0), 0);
    }

    static void roundIsByShift0() {
        String text = cold("a") + "depot a;" + Texts.hour(2, -10, 0) + Texts.hour(0, -10, 0);
        WhiteRoads x = Check.told(text);
        x.shift(50);
        due("by the SHIFT in earnest it would not be", x.when(0, 50), NONE);
        due("WHITE by 0", x.round(1, 0, 0), 1);
    }

    static void roundIsNotBoundByTheStore() {
        WhiteRoads x = Check.told(cold("a") + "depot a;store 0;" + SHORT_FALL);
        due("WHITE", x.round(1, 99, 0), 0);
        due("the store", x.about(5), 0);
        due("SALT", x.yard(0, 3), 0);
    }

    static void roundWhiteAtTheLastStepAndOneBehindIt() {
        WhiteRoads x = Check.told(cold("a") + Texts.hours(11, 0, -10, 0) + Texts.hour(1, -10, 0) + "depot a;");
        x.run(3);
        due("WHITE behind 73", x.round(1, 0, 0), 0);
        x.run(1);
        due("WHITE behind 72", x.round(1, 0, 0), 1);
    }

    // promise 18: lies

    static void liesNothingAtFirst() {
        WhiteRoads x = three();
        for (int i : new int[] {0, 1, -1, 7, LEAST, MOST}) {
            due("lies(" + i + ")", x.lies(i), NONE);
        }
        liesThere(x);
    }

    static void liesFromTheFirstToTheLast() {
        WhiteRoads x = eight();
        x.round(127, 5, 0);
        for (int i = 0; i < 7; i++) {
            due("lies(" + i + ")", x.lies(i), 6 - i);
        }
        for (int i : new int[] {-1, 7, 8, LEAST, MOST}) {
            due("lies(" + i + ")", x.lies(i), NONE);
        }
    }

    static void liesNoMoreOfALongerOrderBefore() {
        WhiteRoads x = eight();
        x.round(127, 5, 0);
        x.round(3, 5, 0);
        liesThere(x, 1, 0);
        for (int i = 2; i < 8; i++) {
            due("lies(" + i + ")", x.lies(i), NONE);
        }
    }

    static void liesTillTheNextRoundOrLand() {
        WhiteRoads x = three();
        x.round(6, 5, 0);
        x.run(9);
        x.shift(9);
        x.spread(0, 9);
        x.image(0);
        x.later(9);
        x.back(0);
        Check.tell(x, "$");
        liesThere(x, 1, 2);
        x.round(1, 5, 0);
        liesThere(x, 0);
        x.land();
        liesThere(x);
    }

    // promise 19: open

    private static final String PAIR = Texts.roads(2) + "way a b takes 25;";

    static void openFromStep0To71() {
        WhiteRoads x = Check.told(PAIR);
        due("from 0", x.open(0, 1, 0), 25);
        due("from 71", x.open(0, 1, 71), 25);
        for (int step : new int[] {-1, 72, LEAST, MOST}) {
            due("open(0, 1, " + step + ")", x.open(0, 1, step), NONE);
            due("open(0, 0, " + step + ")", x.open(0, 0, step), NONE);
        }
    }

    static void openOfAYardThatIsNone() {
        WhiteRoads x = Check.told(PAIR);
        for (int yard : new int[] {-1, 2, LEAST, MOST}) {
            due("from " + yard, x.open(yard, 1, 0), NONE);
            due("to " + yard, x.open(0, yard, 0), NONE);
            due("to itself", x.open(yard, yard, 0), NONE);
        }
        x = eight();
        due("from the first to the last", x.open(0, 7, 0), 420);
        due("from the last to the first", x.open(7, 0, 0), 420);
        due("one too far", x.open(0, 8, 0), NONE);
    }

    static void openFromAYardToItself() {
        WhiteRoads x = Check.told(Texts.roads(1));
        due("without any way", x.open(0, 0, 0), 0);
        due("from 71", x.open(0, 0, 71), 0);
    }

    static void openWithoutAWay() {
        WhiteRoads x = Check.told(Texts.roads(4) + "way a b takes 1;way c d takes 1;");
        due("no way", x.open(0, 2, 0), NONE);
        due("no way", x.open(3, 1, 0), NONE);
        due("a way", x.open(3, 2, 0), 1);
    }

    /** A hill on the way from a to top, BLOCKED behind STEP 4 (99 * 12) and later ones. */
    private static String hillFrom4(int takes) {
        return Texts.yard("hill", "road", 99, 0, "-10") + Texts.road("a") + Texts.way("a", "hill", takes) + Texts.road("top")
            + Texts.way("hill", "top", 1) + Texts.hour(3, -10, 0) + Texts.hour(0, -10, 0);
    }

    private static void blockedFrom(String text, int yard, int from, int to) {
        WhiteRoads x = Check.told(text);
        for (int step = 0; step <= to; step++) {
            due("BLOCKED behind " + step, x.yard(yard, 5), step < from ? 0 : 1);
            x.run(1);
        }
    }

    static void openMinutesToStepsAreCut() {
        blockedFrom(hillFrom4(1), 0, 4, 72);
        // free behind STEP 3, BLOCKED behind STEP 4
        due("9 minutes from STEP 3", Check.told(hillFrom4(9)).open(1, 0, 3), 9);
        due("10 minutes from STEP 3", Check.told(hillFrom4(10)).open(1, 0, 3), NONE);
        due("10 minutes from STEP 2", Check.told(hillFrom4(10)).open(1, 0, 2), 10);
        due("39 minutes from STEP 0", Check.told(hillFrom4(39)).open(1, 0, 0), 39);
        due("40 minutes from STEP 0", Check.told(hillFrom4(40)).open(1, 0, 0), NONE);
    }

    static void openBlockedAtTheBeginning() {
        WhiteRoads x = Check.told(hillFrom4(1));
        due("from the hill at STEP 3", x.open(0, 1, 3), 1);
        due("from the hill at STEP 4", x.open(0, 1, 4), NONE);
        due("to itself at STEP 3", x.open(0, 0, 3), 0);
        due("to itself at STEP 4", x.open(0, 0, 4), NONE);
    }

    static void openBlockedAtTheEnd() {
        WhiteRoads x = Check.told(hillFrom4(1));
        due("to the hill at STEP 3", x.open(1, 0, 3), 1);
        due("to the hill at STEP 4", x.open(1, 0, 4), NONE);
    }

    static void openBlockedInBetween() {
        due("past the hill at 9 minutes", Check.told(hillFrom4(9)).open(1, 2, 3), 10);
        due("past the hill at 10 minutes", Check.told(hillFrom4(10)).open(1, 2, 3), NONE);
    }

    static void openFromNow() {
        WhiteRoads x = Check.told(hillFrom4(1));
        x.run(3);
        due("STEP 0 is now", x.open(1, 0, 0), 1);
        due("STEP 1", x.open(1, 0, 1), NONE);
        x.run(1);
        due("STEP 0 is now", x.open(1, 0, 0), NONE);
    }

    static void openBehindStep72AtMost() {
        // 5 * 198 behind STEP 72, 5 * 200 behind STEP 73
        String text = Texts.yard("hill", "road", 5, 0, "-10") + Texts.road("a") + Texts.hour(11, -10, 0) + Texts.hour(2, -10, 0);
        blockedFrom(text, 0, 73, 76);
        due("10 minutes", Check.told(text + Texts.way("a", "hill", 10)).open(1, 0, 71), 10);
        due("20 minutes", Check.told(text + Texts.way("a", "hill", 20)).open(1, 0, 71), 20);
        due("60 minutes", Check.told(text + Texts.way("a", "hill", 60)).open(1, 0, 71), 60);
        WhiteRoads x = Check.told(text + Texts.way("a", "hill", 10));
        x.run(1);
        due("BLOCKED behind STEP 72 from now", x.open(1, 0, 71), NONE);
        due("not behind STEP 71", x.open(1, 0, 70), 10);
    }

    /** A hill that is BLOCKED from STEP 1 on, and free behind STEP 72. */
    private static final String THAWED = Texts.yard("hill", "road", 99, 0, "-50") + Texts.roads(2) + Texts.hour(20, -50, 0)
        + Texts.hours(10, 0, -50, 0) + Texts.hour(0, 175, 0);

    static void openWithin720Minutes() {
        WhiteRoads hill = Check.told(THAWED);
        for (int step = 1; step <= 72; step++) {
            hill.run(1);
            due("BLOCKED behind " + step, hill.yard(0, 5), step < 72 ? 1 : 0);
        }
        // to and fro between a and b, two minutes each time
        for (int takes = 10; takes <= 60; takes++) {
            WhiteRoads x = Check.told(THAWED + Texts.way("a", "hill", takes) + "way a b takes 1;");
            due("720 or 721 minutes, the last way taking " + takes, x.open(1, 0, 0), takes % 2 == 0 ? 720 : NONE);
            due("from STEP 1 on", x.open(1, 0, 1), takes % 2 == 0 ? 710 : 711);
        }
        due("730 minutes are too many", Check.told(THAWED + "way a hill takes 10;way a b takes 60;").open(1, 0, 1), NONE);
    }

    static void openFewestMinutes() {
        String text = Texts.roads(3) + "way a b takes 30;way b c takes 29;";
        due("straight on", Check.told(text + "way a c takes 58;").open(0, 2, 0), 58);
        due("as long", Check.told(text + "way a c takes 59;").open(0, 2, 0), 59);
        due("round about", Check.told(text + "way a c takes 60;").open(0, 2, 0), 59);
    }

    static void openAYardMayComeAgain() {
        // the hill is BLOCKED behind STEP 6 alone
        String text = Texts.yard("hill", "grass", 99, 0, "-10") + Texts.roads(2) + "way a hill takes 10;" + Texts.hour(2, -10, 0)
            + Texts.hour(0, 100, 0);
        due("without another way there is no waiting", Check.told(text).open(1, 0, 5), NONE);
        due("to b and back, and on", Check.told(text + "way a b takes 5;").open(1, 0, 5), 20);
        due("to b and back, and on", Check.told(text + "way a b takes 4;").open(1, 0, 5), 26);
        due("there again and again", Check.told(text + "way a b takes 1;").open(1, 0, 5), 20);
    }

    static void openWithSeveralHills() {
        // 40 * 3 * step behind each STEP: BLOCKED from STEP 9 on, and the others from STEPS 4 and 34 on
        String text = Texts.road("a") + Texts.yard("b", "road", 40, 0, "-10") + Texts.yard("c", "road", 99, 0, "-10")
            + Texts.yard("d", "road", 10, 0, "-10") + "way a b takes 1;way a c takes 1;way a d takes 1;" + Texts.hour(3, -10, 0);
        int[] from = {73, 9, 4, 34};
        for (int yard = 1; yard < 4; yard++) {
            blockedFrom(text, yard, from[yard], 40);
            WhiteRoads x = Check.told(text);
            for (int step = 0; step < 72; step++) {
                due("to " + yard + " at " + step, x.open(0, yard, step), step < from[yard] ? 1 : NONE);
                due("from " + yard + " at " + step, x.open(yard, 0, step), step < from[yard] ? 1 : NONE);
            }
        }
        WhiteRoads x = Check.told(text);
        due("b to d at 8", x.open(1, 3, 8), 2);
        due("c to d at 4", x.open(2, 3, 4), NONE);
        due("d to b at 9", x.open(3, 1, 9), NONE);
    }

    static void openKeepsNothingOfTheOneBefore() {
        WhiteRoads x = Check.told(hillFrom4(10));
        x.image(0);
        due("BLOCKED", x.open(1, 0, 5), NONE);
        x.run(5);
        due("BLOCKED now", x.open(0, 0, 0), NONE);
        x.back(0);
        due("free", x.open(0, 0, 0), 0);
        Check.tell(x, hillFrom4(10).replace("fall 3", "fall 0"));
        due("free in another LAND", x.open(1, 0, 5), 10);
        Check.tell(x, PAIR);
        due("fewer WAYS in another LAND", x.open(0, 1, 71), 25);
        Check.tell(x, Texts.roads(3));
        due("no WAYS in another LAND", x.open(0, 1, 71), NONE);
    }

    static void openWithSixteenWays() {
        WhiteRoads x = Check.told(Texts.full());
        due("by the next but one", x.open(0, 2, 0), 1);
        due("twice that", x.open(0, 4, 0), 2);
        due("all about", x.open(0, 5, 71), 2);
        due("to the last", x.open(0, 7, 0), 1);
    }

    static void openIsByShift0ToATenth() {
        // SNOW behind STEP 10 is 90 by -1, 85 by 0 and 80 by 1: 12 * 84 is enough to be BLOCKED, 11 * 90 is not
        for (int slope = 11; slope <= 12; slope++) {
            WhiteRoads x = Check.told(Texts.yard("a", "grass", slope, 0, "0") + Texts.hour(9, 3, 0));
            due("by -1", x.deep(0, -1, 10), 90);
            due("by 0", x.deep(0, 0, 10), 85);
            due("by 1", x.deep(0, 1, 10), 80);
            due("slope " + slope, x.open(0, 0, 10), slope == 12 ? NONE : 0);
        }
        WhiteRoads x = Check.told(Texts.yard("a", "grass", 59, 0, "0") + Texts.hour(9, 3, 0));
        // 59 * 17 is 1003, and 59 * 16 is 944
        due("behind 2 by -1", x.deep(0, -1, 2), 18);
        due("behind 2 by 0", x.deep(0, 0, 2), 17);
        due("behind 2 by 1", x.deep(0, 1, 2), 16);
        due("BLOCKED by 0", x.open(0, 0, 2), NONE);
        x = Check.told(Texts.yard("a", "grass", 58, 0, "0") + Texts.hour(9, 3, 0));
        // 58 * 17 is 986, and 58 * 18 is 1044
        due("not BLOCKED by 0", x.open(0, 0, 2), 0);
    }

    static void openIsByShift0() {
        WhiteRoads x = Check.told(hillFrom4(10));
        x.shift(50);
        due("BLOCKED by 0", x.open(1, 0, 3), NONE);
    }
}
