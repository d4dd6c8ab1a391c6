/** What the tests share: telling a text, and counting answers that are not as due. */
final class Check {
    private int wrong = 0;
    private int calls = 0;

    void due(String what, long got, long due) {
        calls++;
        if (got != due) {
            wrong++;
            System.out.println(what + " answered " + got + ", due is " + due);
        }
    }

    void due(String what, boolean got, boolean due) {
        due(what, got ? 1 : 0, due ? 1 : 0);
    }

    /** Ends the test: with exit code 1 if an answer was wrong. */
    void finish(String name) {
        System.out.println(name + ": " + (calls - wrong) + " of " + calls + " answers are as due");
        if (wrong != 0) {
            System.exit(1);
        }
    }

    /** A text as numbers for feed, five a call; bytes of 0 fill the last call. */
    static int[] numbers(String text) {
        int[] n = new int[(text.length() + 19) / 20 * 5];
        for (int i = 0; i < text.length(); i++) {
            n[i / 4] |= (text.charAt(i) & 255) << 24 - i % 4 * 8;
        }
        return n;
    }

    /** Puts a text on the TAPE, which must be empty. */
    static void put(WhiteRoads roads, String text) {
        int[] n = numbers(text);
        for (int i = 0; i < n.length; i += 5) {
            roads.feed(n[i], n[i + 1], n[i + 2], n[i + 3], n[i + 4]);
        }
        roads.end(text.length());
    }

    static int tell(WhiteRoads roads, String text) {
        put(roads, text);
        return roads.land();
    }

    static WhiteRoads told(String text) {
        WhiteRoads roads = new WhiteRoads();
        if (tell(roads, text) == WhiteRoads.NONE) {
            throw new IllegalStateException("FAULT " + roads.fault(0) + " at " + roads.fault(1) + " of " + text);
        }
        return roads;
    }
}
