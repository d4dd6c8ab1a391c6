/** All that can be asked of an object, as one text: what two objects that are alike answer alike. */
final class Probe {
    private final WhiteRoads roads;
    private final String left;
    private final StringBuilder answers = new StringBuilder();

    private Probe(WhiteRoads roads, String left) {
        this.roads = roads;
        this.left = left;
    }

    static String all(WhiteRoads roads) {
        return allBut(roads, "");
    }

    /** But for one part: fault, order, glass, time, tape or box. The object is used up by that. */
    static String allBut(WhiteRoads roads, String part) {
        Probe probe = new Probe(roads, part);
        probe.ask();
        return probe.answers.toString();
    }

    private void ask() {
        askAbout();
        askYards();
        askForetold();
        askGlasses();
        roads.run(1);
        part("gone on").askYards();
        askBoxes();
        askTape();
    }

    private Probe part(String name) {
        answers.append("\n  ").append(name).append(':');
        return this;
    }

    private void add(long answer) {
        answers.append(' ').append(answer);
    }

    private void askAbout() {
        part("about");
        for (int what = 0; what <= 10; what++) {
            boolean skipped = what == 6 && left.equals("glass") || what == 7 && left.equals("time")
                || what == 8 && left.equals("tape") || what == 10 && left.equals("order");
            add(skipped ? 0 : roads.about(what));
        }
        if (!left.equals("fault")) {
            add(roads.fault(0));
            add(roads.fault(1));
        }
        part("order");
        for (int i = 0; i < 7 && !left.equals("order"); i++) {
            add(roads.lies(i));
        }
        int by = roads.shift(0);
        part("shift").add(by);
        roads.shift(by);
    }

    private void askYards() {
        part("yards");
        for (int yard = 0; yard < roads.about(0); yard++) {
            for (int what = 0; what < 7; what++) {
                add(roads.yard(yard, what));
            }
            for (int layer = 0; layer < roads.yard(yard, 6); layer++) {
                add(roads.warm(yard, layer));
            }
        }
    }

    private void askForetold() {
        part("foretold");
        add(roads.when(0, 0));
        add(roads.deep(0, -3, 9));
        add(roads.least(0, 2));
        add(roads.latest(0, 2, 30));
        add(roads.open(0, 1, 3));
    }

    private void askGlasses() {
        if (left.equals("glass")) {
            return;
        }
        part("glasses");
        for (int k : new int[] {-1, 0, 1, 2, 3, 4, 5, 6, 7, 8, Integer.MAX_VALUE}) {
            add(roads.left(k));
        }
        add(roads.odds(0, 0, 9));
        add(roads.plan(1, 9, 1, 9));
        add(roads.tells(5, 1, 9));
        for (int glass = 0; glass < 30; glass++) {
            add(roads.untell(glass) ? 1 : 0);
        }
    }

    private void askBoxes() {
        for (int box = 0; box < 3 && !left.equals("box"); box++) {
            part("box " + box).add(roads.back(box));
            add(roads.about(4));
            add(roads.about(5));
            add(roads.shift(0));
            askYards();
        }
    }

    private void askTape() {
        if (!left.equals("tape")) {
            part("tape").add(roads.land());
            add(roads.fault(0));
            add(roads.fault(1));
            add(roads.about(5));
        }
    }
}
