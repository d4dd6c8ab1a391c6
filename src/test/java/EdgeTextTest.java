import java.util.Arrays;

/** Boundary cases of promises 1 to 5, and of the text of a LAND: one test for each. */
public final class EdgeTextTest {
    private static final int NONE = WhiteRoads.NONE;
    private static final int GAP = WhiteRoads.GAP;
    private static final int LEAST = Integer.MIN_VALUE;
    private static final int MOST = Integer.MAX_VALUE;
    private static final Check CHECK = new Check();
    private static final String TWO = Texts.roads(2);
    private static final int TWO_LENGTH = TWO.length();

    public static void main(String[] args) {
        CHECK.runAll(EdgeTextTest.class);
    }

    private static void due(String what, long got, long due) {
        CHECK.due(what, got, due);
    }

    private static WhiteRoads good(String text, int yards) {
        WhiteRoads x = new WhiteRoads();
        due("land of '" + text + "'", Check.tell(x, text), yards);
        due("fault of '" + text + "'", x.fault(0), 0);
        due("place of '" + text + "'", x.fault(1), NONE);
        due("yards of '" + text + "'", x.about(0), yards);
        return x;
    }

    private static void fault(String text, int number, int place) {
        WhiteRoads x = new WhiteRoads();
        due("land of '" + text + "'", Check.tell(x, text), NONE);
        due("fault of '" + text + "'", x.fault(0), number);
        due("place of '" + text + "'", x.fault(1), place);
        due("the LAND is empty yet", x.about(0) + x.about(1) + x.about(2) + x.about(3), 0);
    }

    // promise 1: a new object

    static void newObjectHasAnEmptyLand() {
        WhiteRoads x = new WhiteRoads();
        int[] about = {0, 0, 0, 0, 0, 999, 0, 0, 0, NONE, 0};
        for (int i = 0; i < about.length; i++) {
            due("about(" + i + ")", x.about(i), about[i]);
        }
        due("fault(0)", x.fault(0), 0);
        due("fault(1)", x.fault(1), NONE);
    }

    static void newObjectHasNoYardToAskFor() {
        WhiteRoads x = new WhiteRoads();
        due("yard", x.yard(0, 6), NONE);
        due("warm", x.warm(0, 0), GAP);
        due("when", x.when(0, 0), NONE);
        due("deep", x.deep(0, 0, 0), NONE);
        due("least", x.least(0, 0), NONE);
        due("latest", x.latest(0, 0, 0), NONE);
        due("odds", x.odds(0, 0, 0), NONE);
        due("spread", x.spread(0, 1), NONE);
        due("open", x.open(0, 0, 0), NONE);
        due("read", x.read(0, 0, 0, 0, 0), NONE);
        due("plan of no YARD: no SLIP", x.plan(0, 0, 1, 0), GAP);
        due("round of no YARD: no depot", x.round(0, 0, 0), NONE);
        due("lies", x.lies(0), NONE);
        due("left", x.left(0), 0);
        due("tells", x.tells(0, 0, 0), NONE);
        due("untell", x.untell(0) ? 1 : 0, 0);
    }

    static void newObjectGoesOnWithoutAnyYard() {
        WhiteRoads x = new WhiteRoads();
        due("back of an empty BOX", x.back(0), NONE);
        due("shift", x.shift(-50), 0);
        due("run", x.run(144), 144);
        due("image", x.image(0), 144);
        due("run on", x.run(1), 145);
        due("shift on", x.shift(3), -50);
        due("back", x.back(0), 144);
        due("STEPS", x.about(4), 144);
        due("the SHIFT", x.shift(0), -50);
        due("later", x.later(1), 1);
    }

    static void twoObjectsShareNothing() {
        WhiteRoads x = Check.told(TWO + "slip 1 weight 1;depot a;");
        WhiteRoads y = new WhiteRoads();
        x.run(5);
        x.later(7);
        x.image(0);
        x.round(1, 0, 0);
        x.read(0, 0, 0, 0, 0);
        x.feed(0, 0, 0, 0, 0);
        int[] about = {0, 0, 0, 0, 0, 999, 0, 0, 0, NONE, 0};
        for (int i = 0; i < about.length; i++) {
            due("about(" + i + ")", y.about(i), about[i]);
        }
        due("back", y.back(0), NONE);
        due("land", y.land(), 0);
        due("the other one's YARDS", x.about(0), 2);
    }

    static void the512thCallIsAnswered() {
        WhiteRoads x = new WhiteRoads();
        for (int i = 1; i <= 85; i++) {
            x.feed(0x20202020, 0x20202020, 0x20202020, 0x20202020, 0x20202020);
        }
        x.end(1681);
        for (int i = 87; i <= 510; i++) {
            due("a refused feed", x.feed(0, 0, 0, 0, 0), NONE);
        }
        due("the 511th", x.about(8), 1681);
        due("the 512th", x.land(), 0);
    }

    // promise 2: feed

    static void feedTakesOfEachNumberTheHighestFirst() {
        for (int i = 0; i < 20; i++) {
            for (int c : new int[] {'$', 0, 127, 128, 255}) {
                int[] n = new int[5];
                Arrays.fill(n, 0x20202020);
                n[i / 4] ^= (0x20 ^ c) << 24 - i % 4 * 8;
                WhiteRoads x = new WhiteRoads();
                due("feed", x.feed(n[0], n[1], n[2], n[3], n[4]), 20);
                due("land", x.land(), NONE);
                due("byte " + c + " is no TOKEN", x.fault(0), 1);
                due("byte " + c + " stands at", x.fault(1), i);
            }
        }
    }

    static void feedComesBehindThoseOnTheTape() {
        for (int n : new int[] {0, 1, 19, 20}) {
            WhiteRoads x = new WhiteRoads();
            x.feed(0x20202020, 0x20202020, 0x20202020, 0x20202020, 0x20202020);
            x.end(n);
            due("feed behind " + n, x.feed(0x24202020, 0x20202020, 0x20202020, 0x20202020, 0x20202020), n + 20);
            x.land();
            due("the first byte's place", x.fault(1), n);
        }
    }

    private static WhiteRoads blanks1700() {
        WhiteRoads x = new WhiteRoads();
        for (int i = 1; i <= 85; i++) {
            due("feed " + i, x.feed(0x20202020, 0x20202020, 0x20202020, 0x20202020, 0x20202020), 20 * i);
        }
        return x;
    }

    static void feedUpTo1700IsTaken() {
        WhiteRoads x = blanks1700();
        x.end(1680);
        due("feed behind 1680", x.feed(0, 0, 0, 0, 0), 1700);
        due("bytes", x.about(8), 1700);
    }

    static void feedAbove1700IsRefused() {
        WhiteRoads x = blanks1700();
        for (int n = 1700; n > 1680; n--) {
            due("end", x.end(n), n);
            due("feed behind " + n, x.feed(0, 0, 0, 0, 0), NONE);
            due("nothing comes", x.about(8), n);
        }
    }

    static void feedRefusedLeavesTheBytesThatAreThere() {
        WhiteRoads x = blanks1700();
        x.feed(0x24242424, 0x24242424, 0x24242424, 0x24242424, 0x24242424);
        due("no byte has changed", x.land(), 0);
        due("no FAULT", x.fault(0), 0);
    }

    // promise 3: end

    static void endOfAnEmptyTape() {
        WhiteRoads x = new WhiteRoads();
        due("end(0)", x.end(0), 0);
        due("end(1)", x.end(1), NONE);
        due("end(-1)", x.end(-1), NONE);
        due("bytes", x.about(8), 0);
    }

    static void endWithAsManyAsThereAre() {
        WhiteRoads x = new WhiteRoads();
        x.feed(0, 0, 0, 0, 0);
        due("end(20)", x.end(20), 20);
        due("bytes", x.about(8), 20);
    }

    static void endWithOneMoreDoesNothing() {
        WhiteRoads x = new WhiteRoads();
        x.feed(0, 0, 0, 0, 0);
        due("end(21)", x.end(21), NONE);
        due("bytes", x.about(8), 20);
        due("end(most)", x.end(MOST), NONE);
        due("bytes", x.about(8), 20);
    }

    static void endBelowZeroDoesNothing() {
        WhiteRoads x = new WhiteRoads();
        x.feed(0, 0, 0, 0, 0);
        due("end(-1)", x.end(-1), NONE);
        due("bytes", x.about(8), 20);
        due("end(least)", x.end(LEAST), NONE);
        due("bytes", x.about(8), 20);
    }

    static void endAtZeroEmptiesTheTape() {
        WhiteRoads x = new WhiteRoads();
        x.feed(0x24242424, 0, 0, 0, 0);
        due("end(0)", x.end(0), 0);
        due("bytes", x.about(8), 0);
        due("land", x.land(), 0);
    }

    static void endOfAFullTape() {
        WhiteRoads x = blanks1700();
        due("end(1701)", x.end(1701), NONE);
        due("end(1700)", x.end(1700), 1700);
        due("end(1699)", x.end(1699), 1699);
        due("end(1700) again", x.end(1700), NONE);
        due("bytes", x.about(8), 1699);
    }

    static void endLeavesTheFirstBytesAsTheyAre() {
        WhiteRoads x = new WhiteRoads();
        // "store 77" and then what is no TOKEN
        x.feed(0x73746f72, 0x65203737, 0x24242424, 0x24242424, 0x24242424);
        x.end(8);
        x.feed(0x3b202020, 0x20202020, 0x20202020, 0x20202020, 0x20202020);
        due("land", x.land(), 0);
        due("the store", x.about(5), 77);
    }

    static void endCutsWithinANumber() {
        WhiteRoads x = new WhiteRoads();
        x.feed(0x73746f72, 0x65203737, 0x20202020, 0x20202020, 0x20202020);
        x.end(7);
        x.feed(0x3b202020, 0x20202020, 0x20202020, 0x20202020, 0x20202020);
        due("land", x.land(), 0);
        due("the store", x.about(5), 7);
    }

    // promise 4: land

    /** With WATER, SNOW, ICE and SALT on the first YARD, and something of everything else. */
    private static WhiteRoads busy() {
        WhiteRoads x = Check.told(TWO + "way a b takes 5;hour fall 9 temp -50 wet 5;slip 1 weight 1;slip 2 weight 1;depot b;store 50;");
        x.shift(7);
        x.run(5);
        x.spread(0, 20);
        x.later(4);
        x.read(0, 0, 0, 99, 0);
        for (int box = 0; box < 3; box++) {
            x.image(box);
        }
        x.round(3, 5, 0);
        return x;
    }

    static void landEmptiesTheTape() {
        WhiteRoads x = new WhiteRoads();
        Check.put(x, TWO);
        due("land", x.land(), 2);
        due("bytes", x.about(8), 0);
        due("land of the empty TAPE", x.land(), 0);
        due("yards", x.about(0), 0);
    }

    static void landBehindAFaultEmptiesTheTape() {
        WhiteRoads x = new WhiteRoads();
        Check.put(x, "$");
        due("land", x.land(), NONE);
        due("bytes", x.about(8), 0);
        due("land of the empty TAPE", x.land(), 0);
    }

    static void landOfAnEmptyTextTakesAllAway() {
        WhiteRoads x = busy();
        due("land", x.land(), 0);
        int[] about = {0, 0, 0, 0, 0, 999, 0, 4, 0, NONE, 0};
        for (int i = 0; i < about.length; i++) {
            due("about(" + i + ")", x.about(i), about[i]);
        }
        due("yard", x.yard(0, 0), NONE);
        due("left", x.left(4), 0);
    }

    static void landBeginsWithNoStep() {
        WhiteRoads x = busy();
        Check.tell(x, TWO);
        due("STEPS", x.about(4), 0);
        due("run", x.run(144), 144);
    }

    static void landBeginsWithShift0() {
        WhiteRoads x = busy();
        Check.tell(x, TWO);
        due("the SHIFT", x.shift(1), 0);
    }

    static void landBeginsWithTheStoreAsTold() {
        WhiteRoads x = busy();
        Check.tell(x, TWO + "store 60;");
        due("the store", x.about(5), 60);
        Check.tell(x, TWO);
        due("the store, not told", x.about(5), 999);
    }

    static void landBeginsWithoutGlasses() {
        WhiteRoads x = busy();
        due("left before", x.left(4), 0);
        Check.tell(x, TWO + "slip 1 weight 1;");
        due("GLASSES", x.about(6), 0);
        due("left", x.left(4), 1);
        due("untell", x.untell(0) ? 1 : 0, 0);
        due("the first one", x.read(0, 0, 0, 0, 0), 0);
    }

    static void landEmptiesTheBoxes() {
        for (int box = 0; box < 3; box++) {
            WhiteRoads x = busy();
            Check.tell(x, TWO);
            due("BOX " + box, x.back(box), NONE);
            due("STEPS", x.about(4), 0);
        }
    }

    static void landTakesTheOrderAway() {
        WhiteRoads x = busy();
        due("it lies there", x.about(10), 2);
        Check.tell(x, TWO + "way a b takes 5;depot b;");
        due("YARDS of the order", x.about(10), 0);
        due("lies(0)", x.lies(0), NONE);
    }

    static void landLeavesTheTime() {
        WhiteRoads x = busy();
        Check.tell(x, TWO);
        due("the TIME", x.about(7), 4);
        due("later", x.later(1), 5);
    }

    static void landBeginsWithBareYards() {
        WhiteRoads x = busy();
        x.shift(50);
        x.run(1);
        for (int what = 0; what < 4; what++) {
            CHECK.due("there is something before: yard(0, " + what + ")", x.yard(0, what) > 0, true);
        }
        Check.tell(x, TWO);
        for (int what = 0; what < 6; what++) {
            due("yard(0, " + what + ")", x.yard(0, what), 0);
        }
        due("warm", x.warm(0, 0), 0);
    }

    static void landForgetsWhatWasToldBefore() {
        WhiteRoads x = Check.told(Texts.full());
        // nothing of the full LAND counts against the new one
        due("full again", Check.tell(x, Texts.full()), 8);
        Check.tell(x, Texts.road("q"));
        int[] about = {1, 0, 0, 0, 0, 999, 0, 0, 0, NONE, 0};
        for (int i = 0; i < about.length; i++) {
            due("about(" + i + ")", x.about(i), about[i]);
        }
        Check.tell(x, "way a b takes 1;");
        due("a YARD of the LAND before", x.fault(0), 5);
    }

    static void landForgetsCallHarmAndTheSky() {
        String cold = Texts.yard("a", "road", 0, 0, "-10") + "slip 0 weight 1;";
        WhiteRoads x = Check.told(cold + Texts.hours(2, 9, -10, 0) + "call 7;harm 30;");
        due("the cost before", x.plan(1, 0, 1, 0), 30);
        for (int again = 0; again < 3; again++) {
            Check.tell(x, cold + Texts.hour(9, -10, 0));
            due("harm is 0", x.plan(1, 0, 1, 0), 0);
            due("call is 0", x.plan(1, 0, 0, 0), 0);
        }
        for (int again = 0; again < 3; again++) {
            Check.tell(x, cold);
            due("nothing falls", x.deep(0, 0, 72), 0);
            x.run(1);
            // (0 + 10) / 4, cut
            due("temp is 0", x.warm(0, 0), -8);
        }
    }

    static void landWithAFaultLeavesAll() {
        WhiteRoads x = busy();
        WhiteRoads y = busy();
        due("land", Check.tell(x, Texts.full() + "$"), NONE);
        CHECK.due("all that can be asked", Probe.allBut(x, "fault"), Probe.allBut(y, "fault"));
    }

    static void landBehindAFaultBeginsAfresh() {
        WhiteRoads x = new WhiteRoads();
        Check.tell(x, Texts.full() + "$");
        // nothing of the text with the FAULT counts against the next one
        due("land", Check.tell(x, Texts.full()), 8);
        Check.tell(x, "hour fall 9 temp 50 wet 3;store 5;depot");
        due("land", Check.tell(x, Texts.road("a")), 1);
        due("the store", x.about(5), 999);
        x.run(1);
        due("nothing fell", x.yard(0, 0) + x.yard(0, 1), 0);
        due("temp is 0", x.warm(0, 0), 0);
    }

    // promise 5: fault

    static void faultBeforeAnyLand() {
        WhiteRoads x = new WhiteRoads();
        due("fault(0)", x.fault(0), 0);
        due("fault(1)", x.fault(1), NONE);
    }

    static void faultOfTheLatestLandAlone() {
        WhiteRoads x = new WhiteRoads();
        Check.tell(x, " $");
        due("FAULT", x.fault(0), 1);
        due("its place", x.fault(1), 1);
        Check.tell(x, "store 5 6;");
        due("FAULT", x.fault(0), 2);
        due("its place", x.fault(1), 8);
        x.land();
        due("no FAULT", x.fault(0), 0);
        due("no place", x.fault(1), NONE);
    }

    static void faultStaysTillTheNextLand() {
        WhiteRoads x = new WhiteRoads();
        Check.tell(x, "  $");
        x.feed(0, 0, 0, 0, 0);
        x.end(0);
        x.run(3);
        x.later(3);
        due("FAULT", x.fault(0), 1);
        due("its place", x.fault(1), 2);
    }

    static void faultOfATextIsNotByTheTextBefore() {
        for (String before : Texts.WORDS) {
            for (String text : new String[] {"5;", "-", ";", "12345", "abcdefghi"}) {
                WhiteRoads x = new WhiteRoads();
                Check.tell(x, before);
                due("land of " + text + " behind " + before, Check.tell(x, text), NONE);
                due("FAULT", x.fault(0), text.length() > 4 ? 1 : 2);
                due("its place", x.fault(1), 0);
            }
        }
    }

    static void faultOfAnotherWhat() {
        WhiteRoads x = new WhiteRoads();
        Check.tell(x, "  $");
        for (int what : new int[] {-1, 2, LEAST, MOST}) {
            due("fault(" + what + ")", x.fault(what), NONE);
        }
    }

    // a text of at most 1,700 bytes

    static void textOf1700BytesIsRead() {
        String line = "store 77;";
        WhiteRoads x = good(" ".repeat(1700 - line.length()) + line, 0);
        due("the store", x.about(5), 77);
    }

    static void faultAtTheLastOf1700Bytes() {
        fault(" ".repeat(1699) + "$", 1, 1699);
        fault(" ".repeat(1699) + ";", 2, 1699);
    }

    static void faultAtTheEndOf1700Bytes() {
        fault(" ".repeat(1692) + "store 77", 2, 1700);
        fault(" ".repeat(1695) + "store", 2, 1700);
    }

    static void emptyTextAndBlanks() {
        good("", 0);
        good(" ", 0);
        good("\n", 0);
        good(" \n".repeat(850), 0);
    }

    // TOKENS

    static void everyByteAloneIsAFault() {
        for (int c = 0; c < 256; c++) {
            boolean token = c == ';' || c == '-' || c >= 'a' && c <= 'z' || c >= '0' && c <= '9';
            if (c != 32 && c != 10) {
                fault(String.valueOf((char) c), token ? 2 : 1, 0);
            }
        }
    }

    static void everyByteBetweenTokens() {
        for (int c = 0; c < 256; c++) {
            if (c == 32 || c == 10) {
                due("the store", good("store" + (char) c + "5;", 0).about(5), 5);
            } else if (c >= '0' && c <= '9') {
                due("the store", good("store" + (char) c + "5;", 0).about(5), (c - '0') * 10 + 5);
            } else if (c >= 'a' && c <= 'z') {
                fault("store" + (char) c + "5;", 2, 0);
            } else {
                fault("store" + (char) c + "5;", c == ';' || c == '-' ? 2 : 1, 5);
            }
        }
    }

    static void wordOf8LettersAndOf9() {
        good("yard abcdefgh road slope 0 traffic 0 warm 0;", 1);
        fault("yard abcdefghi road slope 0 traffic 0 warm 0;", 1, 5);
        fault("abcdefgh", 2, 0);
        fault("abcdefghi", 1, 0);
        fault(TWO + "depot abcdefgh", 5, TWO_LENGTH + 6);
        fault(TWO + "depot abcdefghi", 1, TWO_LENGTH + 6);
        fault("z".repeat(1700), 1, 0);
    }

    static void wordsOf8LettersDifferInAnyLetter() {
        String text = Texts.road("aaaaaaaa") + Texts.road("aaaaaaab") + Texts.road("baaaaaaa") + Texts.road("aaaaaaa") + Texts.road("a");
        good(text, 5);
        fault(text + "yard aaaaaaab", 3, text.length() + 5);
        fault(text + "yard baaaaaaa", 3, text.length() + 5);
        fault(text + "depot aaaaaa;", 5, text.length() + 6);
        fault(text + "depot zaaaaaaa;", 5, text.length() + 6);
    }

    static void wordsOf1And2LettersAreAllUnlike() {
        String[] words = new String[78];
        for (int i = 0; i < 26; i++) {
            words[3 * i] = Texts.letter(i);
            words[3 * i + 1] = "n" + Texts.letter(i);
            words[3 * i + 2] = Texts.letter(i) + "q";
        }
        for (int i = 0; i < words.length; i++) {
            for (int j = 0; j < i; j++) {
                boolean unlike = !words[i].equals(words[j]);
                WhiteRoads x = new WhiteRoads();
                due(words[i] + " and " + words[j], Check.tell(x, Texts.road(words[i]) + Texts.road(words[j])), unlike ? 2 : NONE);
                due(words[i] + " and " + words[j], x.fault(0), unlike ? 0 : 3);
            }
        }
    }

    static void wordOf1Letter() {
        good(Texts.road("a") + Texts.road("z"), 2);
    }

    static void numberOf4DigitsAndOf5() {
        due("the store", good("store 9999;", 0).about(5), 9999);
        due("the store", good("store 0000;", 0).about(5), 0);
        due("the store", good("store 0009;", 0).about(5), 9);
        fault("store 10000;", 1, 6);
        fault("store 00000;", 1, 6);
        fault("store 00009;", 1, 6);
        fault("store " + "9".repeat(1600), 1, 6);
    }

    static void numberOf1Digit() {
        due("the store", good("store 0;", 0).about(5), 0);
        due("the store", good("store 9;", 0).about(5), 9);
    }

    static void blanksPartTokensOrNot() {
        good("yard a road slope0 traffic0 warm0-1 -\n2 2-3;", 1);
        good("yard\n\na  road\nslope\n0\ntraffic\n0\nwarm\n0\n;\n", 1);
        due("SLIPS", good("slip5 weight1;slip-5 weight1;slip - \n 6 weight 1 ;", 0).about(3), 3);
    }

    static void eachTokenIsAsLongAsCanBe() {
        fault("callharm 1;", 2, 0);
        fault("yard a roads slope", 2, 7);
        fault("yarda road", 2, 0);
        fault("yard a road slope 0 traffic 0 warms 0", 2, 30);
        due("the store is 12, not 1 and 2", good("store 12;", 0).about(5), 12);
        due("LAYERS", good("yard a road slope 0 traffic 0 warm 1 23 4;", 1).yard(0, 6), 3);
    }

    static void noLetterDirectlyBehindANumber() {
        good("yard a road slope 5 traffic 5 warm 5;", 1);
        good("yard a road slope 5\ntraffic 5 warm 5;", 1);
        fault("yard a road slope 5traffic 5 warm 5;", 1, 18);
        fault("yard a road slope 99z", 1, 18);
        fault("yard a road slope 9999a", 1, 18);
        fault("store 5a;", 1, 6);
        fault("hour fall 1 temp -5wet 1;", 1, 18);
        fault("hour fall 1 temp 5wet 1;", 1, 17);
    }

    static void signsDirectlyBehindANumber() {
        good("store 5;", 0);
        due("LAYERS", good("yard a road slope 0 traffic 0 warm 5-5-5;", 1).yard(0, 6), 3);
        fault("store 5-;", 2, 7);
    }

    static void whatIsNoTokenDirectlyBehindANumber() {
        fault("store 5A;", 1, 7);
        fault("store 5.;", 1, 7);
        fault("store 5" + (char) 0 + ";", 1, 7);
        fault("store 5" + (char) 255 + ";", 1, 7);
    }

    static void wordsThatStandForThemselvesAreNoNames() {
        due("how many", Texts.WORDS.length, 20);
        for (String word : Texts.WORDS) {
            fault("yard " + word + " road slope 0 traffic 0 warm 0;", 2, 5);
            fault(TWO + "way " + word + " b takes 1;", 2, TWO_LENGTH + 4);
            fault(TWO + "way a " + word + " takes 1;", 2, TWO_LENGTH + 6);
            fault(TWO + "depot " + word + ";", 2, TWO_LENGTH + 6);
        }
    }

    static void wordsThatNearlyStandForThemselvesAreNames() {
        for (String word : Texts.WORDS) {
            good(Texts.road(word + "s"), 1);
            good(Texts.road(word.substring(1)), 1);
            good(Texts.road(word.substring(0, word.length() - 1)), 1);
        }
        for (String word : new String[] {"land", "line", "sort", "name", "n", "v", "salt", "ice", "tokens", "layers"}) {
            good(Texts.road(word) + "depot " + word + ";", 1);
        }
    }

    // how many of each sort

    static void eightYardsAndANinth() {
        String eight = Texts.roads(8);
        good(eight, 8);
        fault(eight + Texts.road("i"), 2, eight.length());
        fault(eight + "\nyard", 2, eight.length() + 1);
    }

    static void oneLayerAndNone() {
        due("LAYERS", good("yard a road slope 0 traffic 0 warm 7;", 1).yard(0, 6), 1);
        fault("yard a road slope 0 traffic 0 warm;", 2, 34);
        fault("yard a road slope 0 traffic 0 warm", 2, 34);
    }

    static void fiveLayersAndASixth() {
        due("LAYERS", good("yard a road slope 0 traffic 0 warm 1 2 3 4 5;", 1).yard(0, 6), 5);
        fault("yard a road slope 0 traffic 0 warm 1 2 3 4 5 6;", 2, 45);
        fault("yard a road slope 0 traffic 0 warm 1 2 3 4 5 -6;", 2, 45);
        fault("yard a road slope 0 traffic 0 warm 1 2 3 4 5 - 6;", 2, 45);
        fault("yard a road slope 0 traffic 0 warm 1 2 3 4 5 -", 2, 45);
        fault("yard a road slope 0 traffic 0 warm 1 2 3 4 5 999;", 2, 45);
    }

    static void layersAreToldFromTheTopOn() {
        WhiteRoads x = good("yard a road slope 0 traffic 0 warm 1 -2 3 -4 5;yard b roof slope 0 traffic 0 warm -200 200;", 2);
        int[] warm = {1, -2, 3, -4, 5};
        for (int i = 0; i < 5; i++) {
            due("warm(0, " + i + ")", x.warm(0, i), warm[i]);
        }
        due("warm(1, 0)", x.warm(1, 0), -200);
        due("warm(1, 1)", x.warm(1, 1), 200);
    }

    static void sixteenWaysAndASeventeenth() {
        String sixteen = Texts.roads(8) + Texts.ways(16);
        due("WAYS", good(sixteen, 8).about(1), 16);
        fault(sixteen + "way a d takes 1;", 2, sixteen.length());
        fault(sixteen + "\nway", 2, sixteen.length() + 1);
    }

    static void twelveHoursAndAThirteenth() {
        String twelve = Texts.hours(12, 1, 1, 1);
        due("HOURS", good(twelve, 0).about(2), 12);
        fault(twelve + Texts.hour(1, 1, 1), 2, twelve.length());
        fault(twelve + "\nhour", 2, twelve.length() + 1);
    }

    static void sevenSlipsAndAnEighth() {
        String seven = Texts.slips(7);
        due("SLIPS", good(seven, 0).about(3), 7);
        fault(seven + "slip 9 weight 1;", 2, seven.length());
        fault(seven + "\nslip", 2, seven.length() + 1);
        // one too many comes before told already
        fault(seven + "slip 0 weight 1;", 2, seven.length());
    }

    static void callHarmDepotStoreOnceEach() {
        String all = TWO + "call 1;harm 2;depot b;store 3;";
        good(all, 2);
        for (String word : new String[] {"call", "harm", "depot", "store"}) {
            fault(all + word + (word.equals("depot") ? " a;" : " 1;"), 2, all.length());
            fault(all + "\n" + word, 2, all.length() + 1);
        }
    }

    static void aFullLand() {
        WhiteRoads x = good(Texts.full(), 8);
        int[] about = {8, 16, 12, 7, 0, 1, 0, 0, 0, 7, 0};
        for (int i = 0; i < about.length; i++) {
            due("about(" + i + ")", x.about(i), about[i]);
        }
    }

    // numbers that can be, and those that can't

    static void slope0To99() {
        good("yard a road slope 0 traffic 0 warm 0;", 1);
        good("yard a road slope 99 traffic 0 warm 0;", 1);
        fault("yard a road slope 100 traffic 0 warm 0;", 4, 18);
        fault("yard a road slope 9999 traffic 0 warm 0;", 4, 18);
        fault("yard a road slope -1 traffic 0 warm 0;", 2, 18);
    }

    static void traffic0To99() {
        good("yard a road slope 0 traffic 0 warm 0;", 1);
        good("yard a road slope 0 traffic 99 warm 0;", 1);
        fault("yard a road slope 0 traffic 100 warm 0;", 4, 28);
        fault("yard a road slope 0 traffic 9999 warm 0;", 4, 28);
        fault("yard a road slope 0 traffic -1 warm 0;", 2, 28);
    }

    static void warmthOfEachLayerMinus200To200() {
        for (int layer = 0; layer < 5; layer++) {
            String ahead = "yard a road slope 0 traffic 0 warm " + "0 ".repeat(layer);
            due("warmest", good(ahead + "200;", 1).warm(0, layer), 200);
            due("coldest", good(ahead + "-200;", 1).warm(0, layer), -200);
            fault(ahead + "201;", 4, ahead.length());
            fault(ahead + "-201;", 4, ahead.length());
            fault(ahead + "- 201;", 4, ahead.length());
            fault(ahead + "9999;", 4, ahead.length());
            fault(ahead + "-9999;", 4, ahead.length());
        }
    }

    static void takes1To60() {
        due("WAYS", good(TWO + "way a b takes 1;", 2).about(1), 1);
        due("WAYS", good(TWO + "way a b takes 60;", 2).about(1), 1);
        fault(TWO + "way a b takes 0;", 4, TWO_LENGTH + 14);
        fault(TWO + "way a b takes 61;", 4, TWO_LENGTH + 14);
        fault(TWO + "way a b takes -1;", 2, TWO_LENGTH + 14);
    }

    static void fall0To99() {
        good("hour fall 0 temp 0 wet 0;", 0);
        good("hour fall 99 temp 0 wet 0;", 0);
        fault("hour fall 100 temp 0 wet 0;", 4, 10);
        fault("hour fall -1 temp 0 wet 0;", 2, 10);
    }

    static void tempMinus200To200() {
        good("hour fall 0 temp 200 wet 0;", 0);
        good("hour fall 0 temp -200 wet 0;", 0);
        fault("hour fall 0 temp 201 wet 0;", 4, 17);
        fault("hour fall 0 temp -201 wet 0;", 4, 17);
        fault("hour fall 0 temp -\n201 wet 0;", 4, 17);
    }

    static void wet0To10() {
        good("hour fall 0 temp 0 wet 0;", 0);
        good("hour fall 0 temp 0 wet 10;", 0);
        fault("hour fall 0 temp 0 wet 11;", 4, 23);
        fault("hour fall 0 temp 0 wet -1;", 2, 23);
    }

    static void slipMinus50To50() {
        due("SLIPS", good("slip 50 weight 1;slip -50 weight 1;", 0).about(3), 2);
        fault("slip 51 weight 1;", 4, 5);
        fault("slip -51 weight 1;", 4, 5);
        fault("slip - 51 weight 1;", 4, 5);
    }

    static void weight1To99() {
        good("slip 0 weight 1;slip 1 weight 99;", 0);
        fault("slip 0 weight 0;", 4, 14);
        fault("slip 0 weight 100;", 4, 14);
        fault("slip 0 weight -1;", 2, 14);
    }

    static void callAndHarm0To9999() {
        good("call 0;harm 0;", 0);
        good("call 9999;harm 9999;", 0);
        fault("call -1;", 2, 5);
        fault("harm -1;", 2, 5);
        fault("call 10000;", 1, 5);
        fault("harm 10000;", 1, 5);
    }

    static void store0To9999() {
        due("the store", good("store 0;", 0).about(5), 0);
        due("the store", good("store 9999;", 0).about(5), 9999);
        due("the store, not told", good("call 5;", 0).about(5), 999);
        fault("store -1;", 2, 6);
        fault("store 10000;", 1, 6);
    }

    static void depotNotTold() {
        due("depot", good(TWO, 2).about(9), NONE);
        due("depot", good(TWO + "depot a;", 2).about(9), 0);
        due("depot", good(TWO + "depot b;", 2).about(9), 1);
    }

    // FAULTS

    static void faultTheFirstByItsPlace() {
        fault("$ yard 5", 1, 0);
        fault("store $ $", 1, 6);
        fault("yard a road slope 100 traffic $", 4, 18);
        fault("yard a lane $", 2, 7);
        fault(TWO + "yard a $", 3, TWO_LENGTH + 5);
        fault(TWO + "way a c $", 5, TWO_LENGTH + 6);
        fault(TWO + "way c d takes 99;$", 5, TWO_LENGTH + 4);
        fault("slip 5 weight 1;slip 5 weight 100;", 3, 21);
        fault("slip 51 weight 100;", 4, 5);
        // a sign comes before what is no TOKEN behind it, but it can stand there
        fault("hour fall 1 temp -$", 1, 18);
        fault("hour fall 1 temp -201$", 4, 17);
    }

    static void faultAtOnePlaceTheLeast() {
        // no TOKEN, which can't stand there either
        fault("yard abcdefghi", 1, 5);
        fault("yard 12345", 1, 5);
        fault("yard a 12345", 1, 7);
        fault("yard a road slope abcdefghi", 1, 18);
        fault("yard a road slope 0 traffic 0 warm 1 1 1 1 1 12345;", 1, 45);
        fault("yard a road slope 0 traffic 0 warm 1 1 1 1 1 6x;", 1, 45);
        fault("store 5 $", 1, 8);
        fault("store $", 1, 6);
        // a YARD with itself, told already as a way's end too
        fault(TWO + "way a b takes 1;way a a takes 1;", 3, TWO_LENGTH + 22);
    }

    static void faultAtTheEnd() {
        for (String text : new String[] {"yard", "yard a", "yard a road", "yard a road slope", "yard a road slope 0",
            "yard a road slope 0 traffic", "yard a road slope 0 traffic 0", "yard a road slope 0 traffic 0 warm",
            "yard a road slope 0 traffic 0 warm 0", "yard a road slope 0 traffic 0 warm 0 0", TWO + "way", TWO + "way a",
            TWO + "way a b", TWO + "way a b takes", TWO + "way a b takes 1", "hour", "hour fall", "hour fall 0", "hour fall 0 temp",
            "hour fall 0 temp -", "hour fall 0 temp 0", "hour fall 0 temp 0 wet", "hour fall 0 temp 0 wet 0", "slip", "slip -", "slip 0",
            "slip 0 weight", "slip 0 weight 1", "call", "call 0", "harm", "harm 0", TWO + "depot", TWO + "depot a", "store", "store 0"}) {
            fault(text, 2, text.length());
            fault(text + " ", 2, text.length() + 1);
            fault(text + "\n\n", 2, text.length() + 2);
        }
    }

    static void faultOfAnyTokenThatCannotStandThere() {
        String[] line = ("yard q road slope 0 traffic 0 warm 0 ; way a b takes 1 ; hour fall 0 temp 0 wet 0 ; slip 0 weight 1 ; "
            + "call 0 ; harm 0 ; depot a ; store 0 ;").split(" ");
        StringBuilder ahead = new StringBuilder(TWO);
        for (String word : line) {
            for (String other : (String.join(" ", Texts.WORDS) + " ; 5 -- zz").split(" ")) {
                if (!canStand(word, other)) {
                    fault(ahead + other, 2, ahead.length() + (isValue(ahead) && other.equals("--") ? 1 : 0));
                }
            }
            ahead.append(word).append(' ');
        }
        good(ahead.toString(), 3);
    }

    /** Behind these a V stands, so a sign can. */
    private static boolean isValue(StringBuilder ahead) {
        return ahead.toString().endsWith("warm ") || ahead.toString().endsWith("temp ") || ahead.toString().endsWith("slip ");
    }

    /** Whether another word can stand where this one does; what stands behind a number is looked at elsewhere. */
    private static boolean canStand(String word, String other) {
        for (String alike : new String[] {"0|1|5", "q|a|b|zz", "yard|way|hour|slip|call|harm|depot|store", "road|grass|bridge|roof", ";|5|--"}) {
            if (word.matches(alike) && other.matches(alike)) {
                return true;
            }
        }
        return word.equals(other);
    }

    static void nameToldAlready() {
        fault(TWO + "yard a road slope 0 traffic 0 warm 0;", 3, TWO_LENGTH + 5);
        fault(TWO + "yard b grass slope 0 traffic 0 warm 0;", 3, TWO_LENGTH + 5);
        fault(TWO + "yard  b", 3, TWO_LENGTH + 6);
    }

    static void yardWithItself() {
        fault(TWO + "way a a takes 1;", 3, TWO_LENGTH + 6);
        fault(TWO + "way b  b takes 1;", 3, TWO_LENGTH + 7);
        // no YARD with itself, but a NAME that no YARD has
        fault(TWO + "way c c takes 1;", 5, TWO_LENGTH + 4);
    }

    static void twoToldAlreadyBothWaysAbout() {
        String way = TWO + Texts.road("c") + "way a b takes 1;";
        good(way + "way a c takes 1;way c b takes 1;", 3);
        fault(way + "way a b takes 1;", 3, way.length() + 6);
        fault(way + "way b a takes 1;", 3, way.length() + 6);
        fault(way + "way a c takes 1;way b a takes 1;", 3, way.length() + 22);
    }

    static void slipToldAlready() {
        fault("slip 5 weight 1;slip 5 weight 2;", 3, 21);
        fault("slip -5 weight 1;slip -5 weight 2;", 3, 22);
        fault("slip -5 weight 1;slip -  5 weight 2;", 3, 22);
        fault("slip 0 weight 1;slip -0 weight 2;", 3, 21);
        fault("slip -0 weight 1;slip 0000 weight 2;", 3, 22);
        due("SLIPS", good("slip 5 weight 1;slip -5 weight 1;", 0).about(3), 2);
    }

    static void nameThatNoYardHas() {
        fault("depot a;", 5, 6);
        fault(TWO + "depot c;", 5, TWO_LENGTH + 6);
        fault(TWO + "depot aa;", 5, TWO_LENGTH + 6);
        fault("way a b takes 1;", 5, 4);
        fault(TWO + "way c a takes 1;", 5, TWO_LENGTH + 4);
        fault(TWO + "way a c takes 1;", 5, TWO_LENGTH + 6);
    }

    static void yardsMustBeToldAhead() {
        fault("depot a;" + TWO, 5, 6);
        fault("way a b takes 1;" + TWO, 5, 4);
        String one = Texts.road("a");
        fault(one + "way a b takes 1;" + Texts.road("b"), 5, one.length() + 6);
        good(TWO + "depot b;way b a takes 1;", 2);
    }
}
