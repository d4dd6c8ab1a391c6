import java.lang.reflect.Method;
import java.util.ArrayList;
import java.util.Arrays;
import java.util.List;
import java.util.Random;

/** Random runs of calls on a WhiteRoads and on a Plain, whose answers must be the same. */
public final class FuzzTest {
    private static final int RUNS = 1500;
    private static final String[] SORTS = {"grass", "road", "bridge", "roof"};

    private final Random random;
    private final WhiteRoads roads = new WhiteRoads();
    private final Plain plain = new Plain();
    private final List<String> trail = new ArrayList<>();
    private String text = "";
    private int calls = 0;
    private int yards = 0;
    /** The first answer that is not as due. */
    private String wrong = null;
    /** How far outside of what can be the arguments go: mostly not at all. */
    private boolean wild;

    private FuzzTest(long seed) {
        random = new Random(seed);
    }

    public static void main(String[] args) throws Exception {
        int runs = args.length > 0 ? Integer.parseInt(args[0]) : RUNS;
        long first = args.length > 1 ? Long.parseLong(args[1]) : 0;
        int wrong = 0;
        for (long seed = first; seed < first + runs && wrong < 5; seed++) {
            String fault = new FuzzTest(seed).run();
            if (fault != null) {
                wrong++;
                System.out.println("seed " + seed + ": " + fault);
            }
        }
        System.out.println(wrong == 0 ? runs + " random runs are as due" : wrong + " random runs are not as due");
        if (wrong != 0) {
            System.exit(1);
        }
    }

    private String run() throws Exception {
        wild = random.nextInt(4) == 0;
        if (random.nextInt(3) == 0) {
            tell(mutated(text()));
        }
        if (yards == 0) {
            tell(text());
        }
        int most = calls + 20 + random.nextInt(200);
        while (calls < most && wrong == null) {
            step();
        }
        return wrong;
    }

    private int call(String name, Object... args) throws Exception {
        calls++;
        Class<?>[] types = new Class<?>[args.length];
        Arrays.fill(types, int.class);
        Method a = WhiteRoads.class.getMethod(name, types);
        Method b = Plain.class.getDeclaredMethod(name, types);
        Object got = a.invoke(roads, args);
        Object due = b.invoke(plain, args);
        trail.add(name + Arrays.toString(args) + " = " + due);
        if (!got.equals(due) && wrong == null) {
            int from = Math.max(0, trail.size() - 12);
            wrong = name + Arrays.toString(args) + " answered " + got + ", due is " + due + " behind " + text
                + "\n" + trail.subList(from, trail.size());
        }
        return due instanceof Integer i ? i : ((Boolean) due) ? 1 : 0;
    }

    private void tell(String told) throws Exception {
        text = told.length() > 1700 ? told.substring(0, 1700) : told;
        call("end", 0);
        int[] n = Check.numbers(text);
        for (int i = 0; i < n.length; i += 5) {
            call("feed", n[i], n[i + 1], n[i + 2], n[i + 3], n[i + 4]);
        }
        call("end", text.length());
        call("land");
        call("fault", 0);
        call("fault", 1);
        yards = plain.about(0);
    }

    private int below(int n) {
        return random.nextInt(Math.max(1, n));
    }

    private int between(int least, int most) {
        return least + random.nextInt(most - least + 1);
    }

    private String blank() {
        int r = below(30);
        return r == 0 ? "  " : r == 1 ? "\n" : " ";
    }

    /** A LAND without FAULT, by and large. */
    private String text() {
        StringBuilder s = new StringBuilder();
        int count = below(10) == 0 ? 0 : between(1, 8);
        // lands at the edge of lying (a short, slight fall near 0 degrees), and others, cold or mild
        boolean edge = below(3) != 0;
        int mild = edge ? between(-6, 12) : between(-60, 60);
        int spread = edge ? 12 : 80;
        int heavy = edge ? between(3, 6) : below(2) == 0 ? 99 : between(2, 9);
        for (int y = 0; y < count; y++) {
            s.append("yard").append(blank()).append(name(y)).append(blank()).append(SORTS[below(4)]).append(blank());
            s.append("slope").append(blank()).append(below(4) == 0 ? 99 : below(60)).append(blank());
            s.append("traffic").append(blank()).append(edge || below(2) == 0 ? below(20) : below(100)).append(blank()).append("warm");
            int layers = between(1, 5);
            for (int i = 0; i < layers; i++) {
                s.append(' ').append(between(-spread, spread) + mild);
            }
            s.append(";");
        }
        int ways = count < 2 ? 0 : below(count * 2);
        for (int i = 0; i < ways; i++) {
            int a = below(count);
            int b = below(count);
            String way = "way " + name(a) + " " + name(b) + " takes ";
            String turned = "way " + name(b) + " " + name(a) + " takes ";
            if (a != b && s.indexOf(way) < 0 && s.indexOf(turned) < 0) {
                s.append(way).append(between(1, below(3) == 0 ? 60 : 25)).append(";\n");
            }
        }
        int hours = between(0, below(2) == 0 ? 3 : 12);
        for (int i = 0; i < hours; i++) {
            boolean dry = edge ? i != 0 && i != hours / 2 : below(3) == 0;
            s.append("hour fall ").append(dry ? 0 : edge ? between(2, heavy) : below(heavy)).append(" temp ");
            s.append(between(-spread / 2, spread / 2) + mild / 2).append(" wet ");
            s.append(below(2) == 0 ? 0 : between(0, 10)).append(";");
        }
        int slips = between(0, 7);
        for (int i = 0; i < slips; i++) {
            int wide = edge ? 3 : 14;
            s.append("slip ").append(i * wide - wide * 7 / 2 + below(wide)).append(" weight ").append(between(1, below(2) == 0 ? 3 : 99)).append(";");
        }
        if (below(4) != 0) {
            s.append("call ").append(below(30)).append(";");
        }
        if (below(5) != 0) {
            s.append("harm ").append(below(2) == 0 ? below(10000) : below(60)).append(";");
        }
        if (count > 0 && below(6) != 0) {
            s.append("depot ").append(name(below(count))).append(" ;");
        }
        if (below(2) == 0) {
            s.append("store ").append(below(2) == 0 ? 9999 : below(300)).append(";");
        }
        return s.toString();
    }

    private static String name(int yard) {
        return new String[] {"a", "lane", "hillside", "yards", "sort", "b", "line", "zz"}[yard];
    }

    private String mutated(String s) {
        String[] bits = {"$", "9", "0", "-", ";", " ", "a", "yard", "call 1;", "slip 3 weight 2;", "way a lane takes 7;",
            "depot a;", "warm", "12345", "abcdefghi", "201", "\t", "A", "hour fall 1 temp 1 wet 1;", "\n", "5x", "\u00e9",
            "yard q grass slope 1 traffic 1 warm 1;", "roof", "61", "11", "-0"};
        if (below(2) == 0) {
            return swapped(s);
        }
        StringBuilder t = new StringBuilder(s);
        int changes = between(1, 3);
        for (int i = 0; i < changes; i++) {
            int at = below(t.length() + 1);
            int end = Math.min(t.length(), at + below(5));
            switch (below(4)) {
                case 0 -> t.delete(at, end);
                case 1 -> t.insert(at, bits[below(bits.length)]);
                case 2 -> t.replace(at, end, bits[below(bits.length)]);
                default -> t.setLength(below(8) == 0 ? at : t.length());
            }
        }
        return t.toString();
    }

    /** With some word, number or line of it at another one's place. */
    private String swapped(String s) {
        String[] parts = s.split(below(2) == 0 ? "(?<=;)" : "(?=[ ;])");
        int changes = between(1, 2);
        for (int i = 0; i < changes; i++) {
            String other = parts[below(parts.length)];
            parts[below(parts.length)] = below(4) == 0 ? other + other : below(4) == 0 ? " 200" : other;
        }
        return String.join("", parts);
    }

    private int around(int least, int most) {
        if (!wild || below(3) != 0) {
            return below(12) == 0 ? (below(2) == 0 ? least : most) : between(least, Math.max(least, most));
        }
        int[] odd = {least - 1, most + 1, Integer.MIN_VALUE, Integer.MAX_VALUE, -1, least, most};
        return odd[below(odd.length)];
    }

    private int aShift() {
        return below(2) == 0 ? between(-8, 8) : around(-50, 50);
    }

    private int aYard() {
        return around(0, Math.max(0, yards - 1));
    }

    private int aTime() {
        return below(8) == 0 ? between(-2, 5) : around(0, Math.max(0, plain.about(7)));
    }

    private void step() throws Exception {
        switch (below(30)) {
            case 0 -> {
                if (below(3) == 0) {
                    tell(below(2) == 0 ? mutated(text()) : text());
                }
            }
            case 1, 2 -> call("run", around(0, below(4) == 0 ? 144 : 12));
            case 3 -> call("shift", aShift());
            case 4, 5 -> call("spread", aYard(), around(1, 99));
            case 6, 7 -> {
                int yard = aYard();
                for (int what = -1; what < 8; what++) {
                    call("yard", yard, what);
                }
            }
            case 8 -> {
                int yard = aYard();
                for (int layer = -1; layer < 6; layer++) {
                    call("warm", yard, layer);
                }
            }
            case 9, 10 -> call("when", aYard(), aShift());
            case 11 -> call("deep", aYard(), aShift(), around(0, 72));
            case 12 -> call("least", aYard(), aShift());
            case 13 -> call("latest", aYard(), aShift(), around(0, 99));
            case 14 -> {
                int yard = aYard();
                int k = aTime();
                for (int part = 0; part < 3; part++) {
                    call("odds", yard, part, k);
                }
            }
            case 15, 16 -> plans();
            case 17, 18 -> rounds();
            case 19, 20 -> call("open", aYard(), aYard(), around(0, 71));
            case 21, 22, 23 -> glass();
            case 24 -> call("untell", around(0, Math.max(0, plain.about(6) - 1)));
            case 25 -> call("later", around(0, below(5) == 0 ? 1000 : 2));
            case 26 -> call("left", aTime());
            case 27 -> {
                int step = around(0, 72);
                int k = aTime();
                for (int what = -1; what < 4; what++) {
                    call("tells", step, what, k);
                }
            }
            case 28 -> call(below(2) == 0 ? "image" : "back", around(0, 2));
            default -> {
                for (int what = -1; what < 12; what++) {
                    call("about", what);
                }
            }
        }
    }

    private void plans() throws Exception {
        int set = around(0, (1 << yards) - 1);
        int salt = around(0, 99);
        int k = aTime();
        for (int what = -1; what < 4; what++) {
            call("plan", set, salt, what, k);
        }
    }

    private void rounds() throws Exception {
        int set = around(0, (1 << yards) - 1);
        if (Integer.bitCount(set) > 5 && below(20) != 0) {
            set &= between(0, 255);
        }
        call("round", set, around(0, 99), around(0, 1));
        for (int i = -1; i < 8; i++) {
            call("lies", i);
        }
        call("about", 10);
    }

    /** A GLASS that is often nearly so by some SLIP, so that some are LEFT. */
    private void glass() throws Exception {
        int yard = aYard();
        int layer = around(0, below(3));
        int step = around(0, 72);
        int slips = plain.about(3);
        int warmth = slips == 0 || below(4) == 0 ? around(-60, 60) : plain.glimpse(yard, layer, step, below(slips));
        call("read", yard, layer, step, warmth, below(2) == 0 ? between(0, 3) : around(0, 99));
        call("left", plain.about(7));
    }
}
