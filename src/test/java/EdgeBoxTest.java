/** Boundary cases of promises 25 to 27: one test for each. */
public final class EdgeBoxTest {
    private static final int NONE = WhiteRoads.NONE;
    private static final int LEAST = Integer.MIN_VALUE;
    private static final int MOST = Integer.MAX_VALUE;
    private static final Check CHECK = new Check();
    /** 1 of SNOW falls in each STEP. */
    private static final String SNOWY = Texts.yard("a", "road", 0, 0, "-50 -40") + Texts.hour(1, -50, 0);

    public static void main(String[] args) {
        CHECK.runAll(EdgeBoxTest.class);
    }

    private static void due(String what, long got, long due) {
        CHECK.due(what, got, due);
    }

    // promise 25: image

    static void imageOfBox0To2() {
        WhiteRoads x = Check.told(SNOWY);
        for (int box = 0; box < 3; box++) {
            due("image(" + box + ")", x.image(box), box);
            x.run(1);
        }
        for (int box = 2; box >= 0; box--) {
            due("back(" + box + ")", x.back(box), box);
            due("SNOW", x.yard(0, 1), box);
        }
    }

    static void imageOfABoxThatIsNone() {
        WhiteRoads x = Check.told(SNOWY);
        for (int box : new int[] {-1, 3, LEAST, MOST}) {
            due("image(" + box + ")", x.image(box), NONE);
        }
        for (int box = 0; box < 3; box++) {
            due("nothing is kept in " + box, x.back(box), NONE);
        }
    }

    static void imageAtTheBeginningAndBehind720() {
        WhiteRoads x = Check.told(SNOWY);
        due("at the beginning", x.image(0), 0);
        for (int i = 0; i < 5; i++) {
            x.run(144);
        }
        due("behind 720", x.image(1), 720);
        due("back to the beginning", x.back(0), 0);
        due("SNOW", x.yard(0, 1), 0);
        due("there can be more STEPS again", x.run(144), 144);
        due("back behind 720", x.back(1), 720);
        due("SNOW", x.yard(0, 1), 720);
        due("there can be no more", x.run(1), NONE);
    }

    static void imageKeptAnewInTheSameBox() {
        WhiteRoads x = Check.told(SNOWY);
        x.run(2);
        x.image(1);
        x.run(3);
        due("anew", x.image(1), 5);
        x.run(4);
        due("back", x.back(1), 5);
        due("SNOW", x.yard(0, 1), 5);
    }

    static void imageOfAnEmptyLand() {
        WhiteRoads x = new WhiteRoads();
        x.run(9);
        due("image", x.image(2), 9);
        x.run(9);
        due("back", x.back(2), 9);
    }

    static void imageIsNotChangedByWhatComesThen() {
        WhiteRoads x = Check.told(SNOWY);
        x.shift(5);
        x.run(2);
        x.spread(0, 10);
        x.image(0);
        int top = x.warm(0, 0);
        int below = x.warm(0, 1);
        for (int again = 0; again < 2; again++) {
            x.shift(-9);
            x.run(30);
            x.spread(0, 50);
            due("back", x.back(0), 2);
            due("SALT", x.yard(0, 3), 10);
            due("the top", x.warm(0, 0), top);
            due("the LAYER below", x.warm(0, 1), below);
            due("the store", x.about(5), 989);
            due("the SHIFT", x.shift(5), 5);
        }
    }

    // promise 26: back

    static void backOfAnEmptyBoxDoesNothing() {
        WhiteRoads x = Check.told(SNOWY);
        x.run(4);
        x.image(1);
        x.run(3);
        for (int box : new int[] {0, 2}) {
            due("back(" + box + ")", x.back(box), NONE);
            due("STEPS", x.about(4), 7);
            due("SNOW", x.yard(0, 1), 7);
        }
        due("back(1)", x.back(1), 4);
    }

    static void backOfABoxThatIsNone() {
        WhiteRoads x = Check.told(SNOWY);
        for (int box = 0; box < 3; box++) {
            x.image(box);
        }
        x.run(7);
        for (int box : new int[] {-1, 3, LEAST, MOST}) {
            due("back(" + box + ")", x.back(box), NONE);
            due("STEPS", x.about(4), 7);
        }
    }

    static void backLeavesWhatIsNotKept() {
        WhiteRoads x = Check.told(SNOWY + "slip 0 weight 1;depot a;");
        x.image(0);
        x.read(0, 0, 0, 99, 0);
        x.later(5);
        x.round(1, 5, 0);
        x.feed(0, 0, 0, 0, 0);
        due("back", x.back(0), 0);
        int[] about = {1, 0, 1, 1, 0, 999, 1, 5, 20, 0, 1};
        for (int i = 0; i < about.length; i++) {
            due("about(" + i + ")", x.about(i), about[i]);
        }
        due("the GLASS counts", x.left(5), 0);
        due("the order", x.lies(0), 0);
    }

    static void backWithoutAStepBetween() {
        WhiteRoads x = Check.told(SNOWY);
        x.run(4);
        x.image(0);
        due("back", x.back(0), 4);
        due("back again", x.back(0), 4);
        due("SNOW", x.yard(0, 1), 4);
    }

    static void backBehindAFaultOfLand() {
        WhiteRoads x = Check.told(SNOWY);
        x.run(4);
        x.image(0);
        x.run(4);
        Check.tell(x, "$");
        due("the BOX stays", x.back(0), 4);
    }

    static void backBehindANewLandIsEmpty() {
        WhiteRoads x = Check.told(SNOWY);
        x.image(0);
        x.image(1);
        x.image(2);
        Check.tell(x, SNOWY);
        x.run(3);
        for (int box = 0; box < 3; box++) {
            due("back(" + box + ")", x.back(box), NONE);
        }
        due("STEPS", x.about(4), 3);
    }

    static void backOfEightYardsWithFiveLayers() {
        StringBuilder text = new StringBuilder();
        for (int i = 0; i < 8; i++) {
            text.append(Texts.yard(Texts.letter(i), "bridge", 0, 40, i + " -20 30 " + 2 * i + " -" + i));
        }
        text.append(Texts.hour(9, -30, 7));
        WhiteRoads x = Check.told(text.toString());
        WhiteRoads y = Check.told(text.toString());
        for (WhiteRoads each : new WhiteRoads[] {x, y}) {
            each.run(4);
            for (int i = 0; i < 8; i++) {
                each.spread(i, 10 + i);
            }
            each.run(1);
        }
        x.image(2);
        x.shift(50);
        x.run(20);
        x.back(2);
        for (int what = 0; what < 4; what++) {
            CHECK.due("there is something: yard(7, " + what + ")", x.yard(7, what) > 0, true);
        }
        for (int i = 0; i < 8; i++) {
            for (int what = 0; what < 7; what++) {
                due("yard(" + i + ", " + what + ")", x.yard(i, what), y.yard(i, what));
            }
            for (int layer = 0; layer < 5; layer++) {
                due("warm(" + i + ", " + layer + ")", x.warm(i, layer), y.warm(i, layer));
            }
        }
    }

    // promise 27: about

    static void aboutAnotherWhat() {
        WhiteRoads x = Check.told(SNOWY);
        for (int what : new int[] {-1, 11, LEAST, MOST}) {
            due("about(" + what + ")", x.about(what), NONE);
        }
    }

    static void aboutAnEmptyObject() {
        WhiteRoads x = new WhiteRoads();
        int[] about = {0, 0, 0, 0, 0, 999, 0, 0, 0, NONE, 0};
        for (int i = 0; i < about.length; i++) {
            due("about(" + i + ")", x.about(i), about[i]);
        }
    }

    static void aboutAFullObject() {
        WhiteRoads x = Check.told(Texts.full().replace("store 1;", "store 9999;"));
        for (int i = 0; i < 5; i++) {
            x.run(144);
        }
        for (int i = 0; i < 30; i++) {
            x.read(0, 0, 0, 0, 0);
        }
        for (int i = 0; i < 100; i++) {
            x.later(1000);
        }
        for (int i = 0; i < 85; i++) {
            x.feed(0, 0, 0, 0, 0);
        }
        x.round(127, 5, 0);
        int[] about = {8, 16, 12, 7, 720, 9999, 30, 100000, 1700, 7, 7};
        for (int i = 0; i < about.length; i++) {
            due("about(" + i + ")", x.about(i), about[i]);
        }
        // one more of each is refused, and changes nothing
        due("run", x.run(1), NONE);
        due("read", x.read(0, 0, 0, 0, 0), NONE);
        due("later", x.later(1), NONE);
        due("feed", x.feed(0, 0, 0, 0, 0), NONE);
        for (int i = 0; i < about.length; i++) {
            due("about(" + i + ") then", x.about(i), about[i]);
        }
    }

    static void aboutTheStoreWhenItIsEmpty() {
        WhiteRoads x = Check.told(Texts.road("a") + "store 5;");
        x.spread(0, 5);
        due("the store", x.about(5), 0);
    }

    static void aboutTheDepotThatIsTheFirstYard() {
        due("the depot", Check.told(Texts.roads(2) + "depot a;").about(9), 0);
        due("no depot", Check.told(Texts.roads(2)).about(9), NONE);
    }
}
