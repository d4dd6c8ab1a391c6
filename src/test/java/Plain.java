import java.util.ArrayDeque;
import java.util.ArrayList;
import java.util.HashMap;
import java.util.List;
import java.util.Map;
import java.util.Set;
import java.util.TreeMap;
import java.util.regex.Matcher;
import java.util.regex.Pattern;

/** The document once more, as plainly as can be and without a thought for speed, to compare with. */
final class Plain {
    static final int NONE = -1;
    static final int GAP = -1000000;
    private static final Set<String> KEYWORDS = Set.of("yard", "slope", "traffic", "warm", "way", "takes", "hour",
        "fall", "temp", "wet", "slip", "weight", "call", "harm", "depot", "store", "grass", "road", "bridge", "roof");

    /** A FAULT, thrown where it is met. */
    @SuppressWarnings("serial")
    private static final class Fault extends RuntimeException {
        final int number;
        final int place;

        Fault(int number, int place) {
            this.number = number;
            this.place = place;
        }
    }

    private record Token(String text, int place) {
        boolean bad() {
            return text.startsWith("?");
        }

        boolean number() {
            return text.matches("[0-9]+");
        }
    }

    private record Yard(String name, String sort, int slope, int traffic, List<Integer> warm) { }

    private record Way(int a, int b, int takes) { }

    private record Hour(int fall, int temp, int wet) { }

    private record Slip(int by, int weight) { }

    private static final class Country {
        final List<Yard> yards = new ArrayList<>();
        final List<Way> ways = new ArrayList<>();
        final List<Hour> hours = new ArrayList<>();
        final List<Slip> slips = new ArrayList<>();
        final Map<String, Integer> once = new TreeMap<>();

        int number(String word, int otherwise) {
            return once.getOrDefault(word, otherwise);
        }

        int named(String name) {
            for (int i = 0; i < yards.size(); i++) {
                if (yards.get(i).name.equals(name)) {
                    return i;
                }
            }
            return NONE;
        }
    }

    private static final class State {
        int[] warm;
        int water;
        int snow;
        int ice;
        int salt;

        State copy() {
            State s = new State();
            s.warm = warm.clone();
            s.water = water;
            s.snow = snow;
            s.ice = ice;
            s.salt = salt;
            return s;
        }
    }

    private record Image(List<State> states, int steps, int shift, int store) { }

    private record Glass(int yard, int layer, int step, int warmth, int some, int told) { }

    private final List<Byte> tape = new ArrayList<>();
    private Country country = new Country();
    private int fault = 0;
    private int place = NONE;
    private List<State> now = new ArrayList<>();
    private int steps = 0;
    private int shift = 0;
    private int store = 999;
    private int time = 0;
    private final List<Glass> glasses = new ArrayList<>();
    private final Map<Integer, Integer> untold = new HashMap<>();
    private final Map<Integer, Image> boxes = new HashMap<>();
    private List<Integer> order = new ArrayList<>();

    // the text

    private List<Token> tokens(String text) {
        Pattern pattern = Pattern.compile("[ \n]+|[a-z]+|[0-9]+|[;-]|[^ \na-z0-9;-]");
        List<Token> list = new ArrayList<>();
        Matcher m = pattern.matcher(text);
        while (m.find()) {
            String t = m.group();
            if (t.charAt(0) == ' ' || t.charAt(0) == '\n') {
                continue;
            }
            boolean good = t.matches("[a-z]{1,8}|[0-9]{1,4}|[;-]");
            if (t.matches("[0-9]+") && m.end() < text.length() && text.substring(m.end()).matches("(?s)[a-z].*")) {
                good = false;
            }
            list.add(new Token(good ? t : "?" + t, m.start()));
        }
        list.add(new Token("", text.length()));
        return list;
    }

    private List<Token> tokens;
    private int next;

    private Token peek() {
        return tokens.get(next);
    }

    private Token take() {
        return tokens.get(next++);
    }

    private Fault cannotStand(Token t) {
        return new Fault(t.bad() ? 1 : 2, t.place);
    }

    private void word(String w) {
        if (!peek().text.equals(w)) {
            throw cannotStand(peek());
        }
        take();
    }

    private int n(int least, int most) {
        Token t = peek();
        if (!t.number()) {
            throw cannotStand(t);
        }
        take();
        int v = Integer.parseInt(t.text);
        if (v < least || v > most) {
            throw new Fault(4, t.place);
        }
        return v;
    }

    private int v(int least, int most) {
        Token first = peek();
        if (!first.text.equals("-")) {
            return n(least, most);
        }
        take();
        int v = -n(0, 9999);
        if (v < least || v > most) {
            throw new Fault(4, first.place);
        }
        return v;
    }

    private String name() {
        Token t = peek();
        if (!t.text.matches("[a-z]+") || KEYWORDS.contains(t.text)) {
            throw cannotStand(t);
        }
        take();
        return t.text;
    }

    private int known(Country c) {
        int at = peek().place;
        int yard = c.named(name());
        if (yard == NONE) {
            throw new Fault(5, at);
        }
        return yard;
    }

    private void line(Country c) {
        Token first = peek();
        String w = first.text;
        int many = switch (w) {
            case "yard" -> 8 - c.yards.size();
            case "way" -> 16 - c.ways.size();
            case "hour" -> 12 - c.hours.size();
            case "slip" -> 7 - c.slips.size();
            case "call", "harm", "depot", "store" -> c.once.containsKey(w) ? 0 : 1;
            default -> 0;
        };
        if (many <= 0) {
            throw cannotStand(first);
        }
        take();
        int at = peek().place;
        switch (w) {
            case "yard" -> {
                String name = name();
                if (c.named(name) != NONE) {
                    throw new Fault(3, at);
                }
                if (!peek().text.matches("grass|road|bridge|roof")) {
                    throw cannotStand(peek());
                }
                String sort = take().text;
                word("slope");
                int slope = n(0, 99);
                word("traffic");
                int traffic = n(0, 99);
                word("warm");
                List<Integer> warm = new ArrayList<>();
                do {
                    warm.add(v(-200, 200));
                } while (warm.size() < 5 && (peek().number() || peek().text.equals("-")));
                c.yards.add(new Yard(name, sort, slope, traffic, warm));
            }
            case "way" -> {
                int a = known(c);
                int second = peek().place;
                int b = known(c);
                for (Way way : c.ways) {
                    if (way.a == a && way.b == b || way.a == b && way.b == a) {
                        throw new Fault(3, second);
                    }
                }
                if (a == b) {
                    throw new Fault(3, second);
                }
                word("takes");
                c.ways.add(new Way(a, b, n(1, 60)));
            }
            case "hour" -> {
                word("fall");
                int fall = n(0, 99);
                word("temp");
                int temp = v(-200, 200);
                word("wet");
                c.hours.add(new Hour(fall, temp, n(0, 10)));
            }
            case "slip" -> {
                int by = v(-50, 50);
                for (Slip s : c.slips) {
                    if (s.by == by) {
                        throw new Fault(3, at);
                    }
                }
                word("weight");
                c.slips.add(new Slip(by, n(1, 99)));
            }
            case "depot" -> c.once.put(w, known(c));
            default -> c.once.put(w, n(0, 9999));
        }
        word(";");
    }

    int feed(int a, int b, int c, int d, int e) {
        if (tape.size() > 1680) {
            return NONE;
        }
        for (int x : new int[] {a, b, c, d, e}) {
            tape.add((byte) (x >>> 24));
            tape.add((byte) (x >>> 16));
            tape.add((byte) (x >>> 8));
            tape.add((byte) x);
        }
        return tape.size();
    }

    int end(int n) {
        if (n < 0 || n > tape.size()) {
            return NONE;
        }
        tape.subList(n, tape.size()).clear();
        return n;
    }

    int land() {
        StringBuilder text = new StringBuilder();
        for (byte b : tape) {
            text.append((char) (b & 255));
        }
        tape.clear();
        Country c = new Country();
        tokens = tokens(text.toString());
        next = 0;
        try {
            while (next < tokens.size() - 1) {
                line(c);
            }
        } catch (Fault f) {
            fault = f.number;
            place = f.place;
            return NONE;
        }
        fault = 0;
        place = NONE;
        country = c;
        steps = 0;
        shift = 0;
        store = c.number("store", 999);
        now = beginning();
        glasses.clear();
        untold.clear();
        boxes.clear();
        order = new ArrayList<>();
        return c.yards.size();
    }

    int fault(int what) {
        return what == 0 ? fault : what == 1 ? place : NONE;
    }

    // what a STEP does

    private List<State> beginning() {
        List<State> states = new ArrayList<>();
        for (Yard y : country.yards) {
            State s = new State();
            s.warm = y.warm.stream().mapToInt(i -> i).toArray();
            states.add(s);
        }
        return states;
    }

    private void step(Yard y, State s, int number, int by) {
        Hour h = country.hours.isEmpty() ? new Hour(0, 0, 0)
            : country.hours.get(Math.min(number / 6, country.hours.size() - 1));
        int t = h.temp + by;
        int layers = s.warm.length;
        int part = y.sort.equals("grass") ? 2 : y.sort.equals("roof") ? 3 : 4;
        s.warm[0] = s.warm[0] + (t - s.warm[0]) / part;
        if (y.sort.equals("bridge") && layers > 1) {
            s.warm[layers - 1] = s.warm[layers - 1] + (t - s.warm[layers - 1]) / 4;
        }
        for (int i = 0; i + 1 < layers; i++) {
            int gets = (s.warm[i + 1] - s.warm[i]) / 4;
            s.warm[i] = s.warm[i] + gets;
            s.warm[i + 1] = s.warm[i + 1] - gets;
        }
        int rain = h.fall * h.wet / 10;
        s.water = s.water + rain;
        s.snow = s.snow + h.fall - rain;
        int point = 0 - 10 * s.salt / (s.water + s.snow + s.ice + 10);
        if (point < -80) {
            point = -80;
        }
        if (s.warm[0] > point) {
            for (int k = 0; k < 2; k++) {
                int turns = Math.min((s.warm[0] - point) / 2, k == 0 ? s.snow : s.ice);
                if (k == 0) {
                    s.snow -= turns;
                } else {
                    s.ice -= turns;
                }
                s.water += turns;
                s.warm[0] -= 2 * turns;
            }
        } else if (s.warm[0] < point) {
            int turns = Math.min((point - s.warm[0]) / 2, s.water);
            s.water -= turns;
            s.ice += turns;
            s.warm[0] += 2 * turns;
        }
        int holds = y.sort.equals("grass") ? 60 : y.sort.equals("roof") ? 10 : 20;
        if (s.water > holds) {
            int off = s.water - holds;
            s.salt = s.salt - s.salt * off / s.water;
            s.water = s.water - off;
        }
        s.salt = s.salt - s.salt * y.traffic / 100;
        int packed = Math.min(y.traffic / 20, s.snow);
        s.snow -= packed;
        s.ice += packed;
    }

    private static boolean white(State s) {
        return s.snow >= 10;
    }

    private static boolean blocked(Yard y, State s) {
        return y.slope * (s.snow + 2 * s.ice) >= 1000;
    }

    private boolean isYard(int yard) {
        return yard >= 0 && yard < country.yards.size();
    }

    private boolean isLayer(int yard, int layer) {
        return isYard(yard) && layer >= 0 && layer < country.yards.get(yard).warm.size();
    }

    private static boolean in(int x, int least, int most) {
        return x >= least && x <= most;
    }

    // in earnest

    int run(int count) {
        if (!in(count, 0, 144) || steps + count > 720) {
            return NONE;
        }
        for (int i = 0; i < count; i++) {
            for (int y = 0; y < now.size(); y++) {
                step(country.yards.get(y), now.get(y), steps, shift);
            }
            steps++;
        }
        return steps;
    }

    int shift(int by) {
        if (!in(by, -50, 50)) {
            return GAP;
        }
        int was = shift;
        shift = by;
        return was;
    }

    int spread(int yard, int salt) {
        if (!isYard(yard) || !in(salt, 1, 99) || salt > store) {
            return NONE;
        }
        now.get(yard).salt += salt;
        store -= salt;
        return store;
    }

    int yard(int yard, int what) {
        if (!isYard(yard) || !in(what, 0, 6)) {
            return NONE;
        }
        State s = now.get(yard);
        Yard y = country.yards.get(yard);
        return new int[] {s.water, s.snow, s.ice, s.salt, white(s) ? 1 : 0, blocked(y, s) ? 1 : 0, y.warm.size()}[what];
    }

    int warm(int yard, int layer) {
        return isLayer(yard, layer) ? now.get(yard).warm[layer] : GAP;
    }

    // what would be

    /** What a YARD has behind each STEP 0 .. 72 from now, SALT being spread behind one of them. */
    private List<State> course(int yard, int by, int salt, int spreadBehind) {
        List<State> course = new ArrayList<>();
        State s = now.get(yard).copy();
        for (int i = 0; i <= 72; i++) {
            if (i > 0) {
                step(country.yards.get(yard), s, steps + i - 1, by);
            }
            course.add(s.copy());
            if (i == spreadBehind) {
                s.salt += salt;
            }
        }
        return course;
    }

    private int firstWhite(int yard, int by, int salt, int spreadBehind) {
        List<State> course = course(yard, by, salt, spreadBehind);
        for (int i = 1; i <= 72; i++) {
            if (white(course.get(i))) {
                return i;
            }
        }
        return NONE;
    }

    int when(int yard, int by) {
        return !isYard(yard) || !in(by, -50, 50) ? NONE : firstWhite(yard, by, 0, 0);
    }

    int deep(int yard, int by, int step) {
        return !isYard(yard) || !in(by, -50, 50) || !in(step, 0, 72) ? NONE : course(yard, by, 0, 0).get(step).snow;
    }

    int least(int yard, int by) {
        for (int salt = 0; isYard(yard) && in(by, -50, 50) && salt <= 99; salt++) {
            if (firstWhite(yard, by, salt, 0) == NONE) {
                return salt;
            }
        }
        return NONE;
    }

    int latest(int yard, int by, int salt) {
        int last = NONE;
        for (int s = 0; isYard(yard) && in(by, -50, 50) && in(salt, 0, 99) && s <= 71; s++) {
            if (firstWhite(yard, by, salt, s) == NONE) {
                last = s;
            }
        }
        return last;
    }

    private static int part(int upper, int lower, int part) {
        int g = java.math.BigInteger.valueOf(upper).gcd(java.math.BigInteger.valueOf(lower)).intValue();
        return (part == 0 ? upper : lower) / g;
    }

    private int weightLeft(int left) {
        int sum = 0;
        for (int i = 0; i < country.slips.size(); i++) {
            sum += (left & 1 << i) != 0 ? country.slips.get(i).weight : 0;
        }
        return sum;
    }

    int odds(int yard, int part, int k) {
        int left = left(k);
        if (!isYard(yard) || !in(part, 0, 1) || left == 0) {
            return NONE;
        }
        int white = 0;
        for (int i = 0; i < country.slips.size(); i++) {
            Slip slip = country.slips.get(i);
            if ((left & 1 << i) != 0 && firstWhite(yard, slip.by, 0, 0) != NONE) {
                white += slip.weight;
            }
        }
        return part(white, weightLeft(left), part);
    }

    private int cost(int yards, int salt, int behind, int left) {
        int sum = 0;
        for (int i = 0; i < country.slips.size(); i++) {
            if ((left & 1 << i) == 0) {
                continue;
            }
            int cost = behind == NONE ? 0 : country.number("call", 0);
            for (int y = 0; y < country.yards.size(); y++) {
                if ((yards & 1 << y) != 0 && firstWhite(y, country.slips.get(i).by, salt, behind) != NONE) {
                    cost += country.number("harm", 0);
                }
            }
            sum += cost * country.slips.get(i).weight;
        }
        return sum;
    }

    int plan(int yards, int salt, int what, int k) {
        int left = left(k);
        if (!in(yards, 0, (1 << country.yards.size()) - 1) || !in(salt, 0, 99) || !in(what, 0, 2) || left == 0) {
            return GAP;
        }
        int best = 0;
        int least = cost(yards, salt, 0, left);
        for (int s = 1; s <= 25; s++) {
            int behind = s == 25 ? NONE : s;
            int cost = cost(yards, salt, behind, left);
            if (cost < least) {
                least = cost;
                best = behind;
            }
        }
        return what == 0 ? best : part(least, weightLeft(left), what - 1);
    }

    // the ways

    private int minutes(int from, int to) {
        int[] far = new int[8];
        java.util.Arrays.fill(far, 99999);
        far[from] = 0;
        for (int i = 0; i < 8; i++) {
            for (Way w : country.ways) {
                far[w.a] = Math.min(far[w.a], far[w.b] + w.takes);
                far[w.b] = Math.min(far[w.b], far[w.a] + w.takes);
            }
        }
        return far[to];
    }

    private List<Integer> bestOrder;
    private int bestWhite;
    private int bestMinutes;
    private Map<Integer, Boolean> whiteWhen;

    private void orders(List<Integer> so, List<Integer> rest, int white, int minutes, int salt) {
        if (rest.isEmpty()) {
            if (bestOrder == null || white < bestWhite || white == bestWhite && minutes < bestMinutes) {
                bestOrder = new ArrayList<>(so);
                bestWhite = white;
                bestMinutes = minutes;
            }
            return;
        }
        int at = so.isEmpty() ? country.once.get("depot") : so.get(so.size() - 1);
        for (int y : List.copyOf(rest)) {
            int then = minutes + minutes(at, y);
            int behind = Math.min(71, then / 10);
            boolean w = whiteWhen.computeIfAbsent(y * 100 + behind, key -> firstWhite(y, 0, salt, behind) != NONE);
            List<Integer> others = new ArrayList<>(rest);
            others.remove((Integer) y);
            so.add(y);
            orders(so, others, white + (w ? 1 : 0), then, salt);
            so.remove(so.size() - 1);
        }
    }

    int round(int yards, int salt, int what) {
        order = new ArrayList<>();
        boolean set = in(yards, 0, (1 << country.yards.size()) - 1) && Integer.bitCount(yards) <= 7;
        if (!set || !in(salt, 0, 99) || !in(what, 0, 1) || !country.once.containsKey("depot")) {
            return NONE;
        }
        List<Integer> list = new ArrayList<>();
        for (int y = 0; y < country.yards.size(); y++) {
            if ((yards & 1 << y) != 0) {
                list.add(y);
                if (minutes(country.once.get("depot"), y) >= 99999) {
                    return NONE;
                }
            }
        }
        bestOrder = null;
        whiteWhen = new HashMap<>();
        orders(new ArrayList<>(), list, 0, 0, salt);
        order = bestOrder;
        return what == 0 ? bestWhite : bestMinutes;
    }

    int lies(int i) {
        return in(i, 0, order.size() - 1) ? order.get(i) : NONE;
    }

    int open(int from, int to, int step) {
        if (!isYard(from) || !isYard(to) || !in(step, 0, 71)) {
            return NONE;
        }
        List<List<State>> courses = new ArrayList<>();
        for (int y = 0; y < country.yards.size(); y++) {
            courses.add(course(y, 0, 0, 0));
        }
        boolean[][] seen = new boolean[8][721];
        int best = NONE;
        ArrayDeque<int[]> todo = new ArrayDeque<>();
        todo.add(new int[] {from, 0});
        while (!todo.isEmpty()) {
            int[] at = todo.poll();
            int y = at[0];
            int m = at[1];
            if (m > 720 || seen[y][m] || blocked(country.yards.get(y), courses.get(y).get(Math.min(72, step + m / 10)))) {
                continue;
            }
            seen[y][m] = true;
            if (y == to && (best == NONE || m < best)) {
                best = m;
            }
            for (Way w : country.ways) {
                if (w.a == y) {
                    todo.add(new int[] {w.b, m + w.takes});
                }
                if (w.b == y) {
                    todo.add(new int[] {w.a, m + w.takes});
                }
            }
        }
        return best;
    }

    // glasses

    int read(int yard, int layer, int step, int warmth, int some) {
        if (!isLayer(yard, layer) || !in(step, 0, 72) || !in(warmth, -999, 999) || !in(some, 0, 99) || glasses.size() == 30) {
            return NONE;
        }
        glasses.add(new Glass(yard, layer, step, warmth, some, time));
        return glasses.size() - 1;
    }

    boolean untell(int glass) {
        if (!in(glass, 0, glasses.size() - 1) || untold.containsKey(glass)) {
            return false;
        }
        untold.put(glass, time);
        return true;
    }

    int later(int by) {
        if (!in(by, 0, 1000) || time + by > 100000) {
            return NONE;
        }
        return time += by;
    }

    private int[] warmthThen(int yard, int step, int by) {
        State s = beginning().get(yard);
        for (int i = 0; i < step; i++) {
            step(country.yards.get(yard), s, i, by);
        }
        return s.warm;
    }

    /** What a GLASS would show by a SLIP; 0 if there is none such. */
    int glimpse(int yard, int layer, int step, int slip) {
        boolean is = isLayer(yard, layer) && in(step, 0, 72);
        return is ? warmthThen(yard, step, country.slips.get(slip).by)[layer] : 0;
    }

    int left(int k) {
        int left = 0;
        for (int i = 0; i < country.slips.size(); i++) {
            boolean so = true;
            for (int g = 0; g < glasses.size(); g++) {
                Glass glass = glasses.get(g);
                if (glass.told > k || untold.containsKey(g) && untold.get(g) <= k) {
                    continue;
                }
                int was = warmthThen(glass.yard, glass.step, country.slips.get(i).by)[glass.layer];
                so &= was >= glass.warmth - glass.some && was <= glass.warmth + glass.some;
            }
            left |= so ? 1 << i : 0;
        }
        return left;
    }

    int tells(int step, int what, int k) {
        int left = left(k);
        if (!in(step, 0, 72) || !in(what, 0, 2) || left == 0 || country.yards.isEmpty()) {
            return NONE;
        }
        int[] best = null;
        for (int y = 0; y < country.yards.size(); y++) {
            for (int l = 0; l < country.yards.get(y).warm.size(); l++) {
                Map<Integer, Integer> counts = new HashMap<>();
                for (int i = 0; i < country.slips.size(); i++) {
                    if ((left & 1 << i) != 0) {
                        counts.merge(warmthThen(y, step, country.slips.get(i).by)[l], 1, Integer::sum);
                    }
                }
                int most = counts.values().stream().mapToInt(c -> c).max().getAsInt();
                if (best == null || most < best[2]) {
                    best = new int[] {y, l, most};
                }
            }
        }
        return best[what];
    }

    // boxes

    private static List<State> copies(List<State> states) {
        List<State> list = new ArrayList<>();
        for (State s : states) {
            list.add(s.copy());
        }
        return list;
    }

    int image(int box) {
        if (!in(box, 0, 2)) {
            return NONE;
        }
        boxes.put(box, new Image(copies(now), steps, shift, store));
        return steps;
    }

    int back(int box) {
        Image image = boxes.get(box);
        if (image == null) {
            return NONE;
        }
        now = copies(image.states);
        steps = image.steps;
        shift = image.shift;
        store = image.store;
        return steps;
    }

    int about(int what) {
        if (!in(what, 0, 10)) {
            return NONE;
        }
        return new int[] {country.yards.size(), country.ways.size(), country.hours.size(), country.slips.size(), steps,
            store, glasses.size(), time, tape.size(), country.number("depot", NONE), order.size()}[what];
    }
}
