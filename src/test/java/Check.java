/** What the tests share: telling a text, and counting answers that are not as due. */
final class Check {
    private int wrong = 0;
    private int calls = 0;

    void due(String what, long got, long due) {
        calls++;
        if (got != due) {
            wrong++;
            System.out.println(what + " answered " + got + ", due is " + due);
        }
    }

    void due(String what, boolean got, boolean due) {
        due(what, got ? 1 : 0, due ? 1 : 0);
    }

    /** Ends the test: with exit code 1 if an answer was wrong. */
    void finish(String name) {
        System.out.println(name + ": " + (calls - wrong) + " of " + calls + " answers are as due");
        if (wrong != 0) {
            System.exit(1);
        }
    }

    /** Puts a text on the TAPE, which must be empty. */
    static void put(WhiteRoads roads, String text) {
        byte[] bytes = new byte[(text.length() + 19) / 20 * 20];
        for (int i = 0; i < text.length(); i++) {
            bytes[i] = (byte) text.charAt(i);
        }
        for (int i = 0; i < bytes.length; i += 20) {
            int[] n = new int[5];
            for (int j = 0; j < 20; j++) {
                n[j / 4] = n[j / 4] << 8 | bytes[i + j] & 255;
            }
            roads.feed(n[0], n[1], n[2], n[3], n[4]);
        }
        roads.end(text.length());
    }

    static int tell(WhiteRoads roads, String text) {
        put(roads, text);
        return roads.land();
    }

    static WhiteRoads told(String text) {
        WhiteRoads roads = new WhiteRoads();
        if (tell(roads, text) == WhiteRoads.NONE) {
            throw new IllegalStateException("FAULT " + roads.fault(0) + " at " + roads.fault(1) + " of " + text);
        }
        return roads;
    }
}
