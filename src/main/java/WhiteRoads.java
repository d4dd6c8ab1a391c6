import java.util.Arrays;

/** Will it lie: yards, ways and a sky told in a text, and what each minute's sky does to each yard. */
public final class WhiteRoads {
    public static final int NONE = -1;
    public static final int GAP = -1000000;

    private static final int MOST_BYTES = 1700;
    private static final int MOST_YARDS = 8;
    private static final int MOST_LAYERS = 5;
    private static final int MOST_WAYS = 16;
    private static final int MOST_HOURS = 12;
    private static final int MOST_SLIPS = 7;
    private static final int MOST_GLASSES = 30;
    private static final int MOST_BOXES = 3;
    private static final int MOST_STEPS = 720;
    private static final int MOST_STEPS_AT_ONCE = 144;
    private static final int MOST_SHIFT = 50;
    private static final int MOST_SALT = 99;
    private static final int MOST_TIME = 100000;
    private static final int STORE_UNTOLD = 999;

    /** WHAT WOULD BE goes on for so many STEPS. */
    private static final int AHEAD = 72;
    private static final int STEPS_IN_HOUR = 6;
    /** Above any number that is counted or summed up here. */
    private static final int BEYOND = 1000000000;
    private static final int MINUTES_IN_STEP = 10;
    private static final int MOST_MINUTES = 720;

    private static final int GRASS = 0;
    private static final int BRIDGE = 2;
    private static final int ROOF = 3;

    private final byte[] tape = new byte[MOST_BYTES];
    private int tapeLength = 0;
    /** The LAND, and a second one for the next text, so that a FAULT leaves the first as it is. */
    private Land country = new Land();
    private Land draft = new Land();
    private final Parser parser = new Parser(draft);
    private final Day day = new Day(country);
    private final Outlook outlook = new Outlook();
    private final Planner planner = new Planner();
    private final Gritter gritter = new Gritter();
    private final Car car = new Car();
    private final Glasses glasses = new Glasses();
    private int time = 0;
    private final int[][] boxes = new int[MOST_BOXES][Day.ROW];
    private final boolean[] kept = new boolean[MOST_BOXES];

    public WhiteRoads() {
    }

    public int feed(int a, int b, int c, int d, int e) {
        if (tapeLength + 20 > MOST_BYTES) {
            return NONE;
        }
        append(a);
        append(b);
        append(c);
        append(d);
        append(e);
        return tapeLength;
    }

    public int end(int n) {
        if (n < 0 || n > tapeLength) {
            return NONE;
        }
        tapeLength = n;
        return n;
    }

    public int land() {
        boolean told = parser.parse(tape, tapeLength, draft);
        tapeLength = 0;
        if (!told) {
            return NONE;
        }
        Land last = country;
        country = draft;
        draft = last;
        day.begin(country);
        glasses.clear();
        gritter.forget();
        for (int i = 0; i < MOST_BOXES; i++) {
            kept[i] = false;
        }
        return country.yardCount;
    }

    public int fault(int what) {
        if (what == 0) {
            return parser.faultNumber;
        }
        return what == 1 ? parser.faultPlace : NONE;
    }

    public int run(int steps) {
        if (steps < 0 || steps > MOST_STEPS_AT_ONCE || day.steps + steps > MOST_STEPS) {
            return NONE;
        }
        for (int i = 0; i < steps; i++) {
            day.goStep();
        }
        return day.steps;
    }

    public int shift(int by) {
        if (!isShift(by)) {
            return GAP;
        }
        int before = day.slipped;
        day.slipped = by;
        return before;
    }

    public int spread(int yard, int salt) {
        if (!isYard(yard) || salt < 1 || salt > MOST_SALT || salt > day.stored) {
            return NONE;
        }
        day.strew(yard, salt);
        return day.stored;
    }

    public int yard(int yard, int what) {
        if (!isYard(yard)) {
            return NONE;
        }
        Ground ground = day.grounds[yard];
        Told told = country.yards[yard];
        switch (what) {
            case 0: return ground.water;
            case 1: return ground.snow;
            case 2: return ground.ice;
            case 3: return ground.salt;
            case 4: return ground.isWhite() ? 1 : 0;
            case 5: return ground.isBlocked(told) ? 1 : 0;
            case 6: return told.layers;
            default: return NONE;
        }
    }

    public int warm(int yard, int layer) {
        return isLayer(yard, layer) ? day.grounds[yard].warmth[layer] : GAP;
    }

    public int when(int yard, int shift) {
        if (!isYard(yard) || !isShift(shift)) {
            return NONE;
        }
        return outlook.firstWhite(day, yard, shift, 0, 0);
    }

    public int deep(int yard, int shift, int step) {
        if (!isYard(yard) || !isShift(shift) || step < 0 || step > AHEAD) {
            return NONE;
        }
        return outlook.snowBehind(day, yard, shift, step);
    }

    public int least(int yard, int shift) {
        if (!isYard(yard) || !isShift(shift)) {
            return NONE;
        }
        for (int salt = 0; salt <= MOST_SALT; salt++) {
            if (outlook.firstWhite(day, yard, shift, salt, 0) == NONE) {
                return salt;
            }
        }
        return NONE;
    }

    public int latest(int yard, int shift, int salt) {
        if (!isYard(yard) || !isShift(shift) || !isSalt(salt)) {
            return NONE;
        }
        for (int step = outlook.lastInTime(day, yard, shift); step >= 0; step--) {
            if (outlook.firstWhite(day, yard, shift, salt, step) == NONE) {
                return step;
            }
        }
        return NONE;
    }

    public int odds(int yard, int part, int k) {
        int slips = glasses.leftAt(k, country);
        if (!isYard(yard) || part < 0 || part > 1 || slips == 0) {
            return NONE;
        }
        int white = 0;
        for (int i = 0; i < country.slipCount; i++) {
            if ((slips >> i & 1) != 0 && outlook.firstWhite(day, yard, country.slips[i], 0, 0) != NONE) {
                white += country.weights[i];
            }
        }
        return lowest(white, country.weightOf(slips), part);
    }

    public int plan(int yards, int salt, int what, int k) {
        int slips = glasses.leftAt(k, country);
        if (!isSet(yards) || !isSalt(salt) || what < 0 || what > 2 || slips == 0) {
            return GAP;
        }
        planner.weigh(day, outlook, yards, salt, slips);
        if (what == 0) {
            return planner.bestStep;
        }
        return lowest(planner.bestCost, country.weightOf(slips), what - 1);
    }

    public int round(int yards, int salt, int what) {
        gritter.forget();
        if (!isSet(yards) || !isSalt(salt) || what < 0 || what > 1) {
            return NONE;
        }
        if (!gritter.goAbout(day, outlook, yards, salt)) {
            return NONE;
        }
        return what == 0 ? gritter.fewestWhite : gritter.fewestMinutes;
    }

    public int lies(int i) {
        return i < 0 || i >= gritter.count ? NONE : gritter.best[i];
    }

    public int open(int from, int to, int step) {
        if (!isYard(from) || !isYard(to) || step < 0 || step >= AHEAD) {
            return NONE;
        }
        car.lookOut(day, outlook);
        return car.fewestMinutes(country, from, to, step);
    }

    public int read(int yard, int layer, int step, int warmth, int some) {
        if (!isLayer(yard, layer) || step < 0 || step > AHEAD || glasses.count >= MOST_GLASSES) {
            return NONE;
        }
        if (warmth < -999 || warmth > 999 || some < 0 || some > 99) {
            return NONE;
        }
        int fits = 0;
        for (int i = 0; i < country.slipCount; i++) {
            glasses.lookBack(country, yard, i, step);
            if (Math.abs(glasses.shown(layer) - warmth) <= some) {
                fits |= 1 << i;
            }
        }
        return glasses.add(time, fits);
    }

    public boolean untell(int glass) {
        return glasses.takeBack(glass, time);
    }

    public int later(int by) {
        if (by < 0 || by > 1000 || time + by > MOST_TIME) {
            return NONE;
        }
        time += by;
        return time;
    }

    public int left(int k) {
        return glasses.leftAt(k, country);
    }

    public int tells(int step, int what, int k) {
        int slips = glasses.leftAt(k, country);
        if (step < 0 || step > AHEAD || what < 0 || what > 2 || slips == 0 || country.yardCount == 0) {
            return NONE;
        }
        glasses.choose(country, step, slips);
        if (what == 0) {
            return glasses.chosenYard;
        }
        return what == 1 ? glasses.chosenLayer : glasses.chosenAlike;
    }

    public int image(int box) {
        if (box < 0 || box >= MOST_BOXES) {
            return NONE;
        }
        day.keepIn(boxes[box]);
        kept[box] = true;
        return day.steps;
    }

    public int back(int box) {
        if (box < 0 || box >= MOST_BOXES || !kept[box]) {
            return NONE;
        }
        day.takeFrom(boxes[box]);
        return day.steps;
    }

    public int about(int what) {
        switch (what) {
            case 0: return country.yardCount;
            case 1: return country.wayCount;
            case 2: return country.hourCount;
            case 3: return country.slipCount;
            case 4: return day.steps;
            case 5: return day.stored;
            case 6: return glasses.count;
            case 7: return time;
            case 8: return tapeLength;
            case 9: return country.depot;
            case 10: return gritter.count;
            default: return NONE;
        }
    }

    private void append(int number) {
        for (int bits = 24; bits >= 0 && tapeLength < MOST_BYTES; bits -= 8) {
            tape[tapeLength] = (byte) (number >> bits);
            tapeLength++;
        }
    }

    private boolean isYard(int yard) {
        return yard >= 0 && yard < country.yardCount;
    }

    private boolean isLayer(int yard, int layer) {
        return isYard(yard) && layer >= 0 && layer < country.yards[yard].layers;
    }

    private boolean isSet(int yards) {
        return yards >= 0 && yards < 1 << country.yardCount;
    }

    private static boolean isShift(int by) {
        return by >= -MOST_SHIFT && by <= MOST_SHIFT;
    }

    private static boolean isSalt(int salt) {
        return salt >= 0 && salt <= MOST_SALT;
    }

    /** The upper (0) or lower part (1) of a fraction in lowest terms; the lower part is above 0. */
    private static int lowest(int upper, int lower, int part) {
        int a = upper;
        int b = lower;
        for (int i = 0; i < 100 && b != 0; i++) {
            int rest = a % b;
            a = b;
            b = rest;
        }
        int divisor = a < 1 ? 1 : a;
        return (part == 0 ? upper : lower) / divisor;
    }

    /** A YARD as the text tells it. */
    private static final class Told {
        long name;
        int sort;
        int slope;
        int traffic;
        int layers;
        final int[] warmth = new int[MOST_LAYERS];
    }

    /** A LAND as the text tells it. */
    private static final class Land {
        final Told[] yards = new Told[MOST_YARDS];
        int yardCount;
        final int[] wayFrom = new int[MOST_WAYS];
        final int[] wayTo = new int[MOST_WAYS];
        final int[] wayTakes = new int[MOST_WAYS];
        int wayCount;
        final int[] falls = new int[MOST_HOURS];
        final int[] temps = new int[MOST_HOURS];
        final int[] wets = new int[MOST_HOURS];
        int hourCount;
        final int[] slips = new int[MOST_SLIPS];
        final int[] weights = new int[MOST_SLIPS];
        int slipCount;
        int callCost;
        int harmCost;
        int depot;
        int storeTold;
        /** Bits of the words that were told and may be told only once. */
        int toldOnce;

        Land() {
            for (int i = 0; i < MOST_YARDS; i++) {
                yards[i] = new Told();
            }
            clear();
        }

        void clear() {
            yardCount = 0;
            wayCount = 0;
            hourCount = 0;
            slipCount = 0;
            callCost = 0;
            harmCost = 0;
            depot = NONE;
            storeTold = STORE_UNTOLD;
            toldOnce = 0;
            // without HOURS the first row is looked at
            falls[0] = 0;
            temps[0] = 0;
            wets[0] = 0;
        }

        int yardNamed(long name) {
            for (int i = 0; i < yardCount; i++) {
                if (yards[i].name == name) {
                    return i;
                }
            }
            return NONE;
        }

        boolean hasWay(int one, int other) {
            for (int i = 0; i < wayCount; i++) {
                if (wayFrom[i] == one && wayTo[i] == other || wayFrom[i] == other && wayTo[i] == one) {
                    return true;
                }
            }
            return false;
        }

        boolean hasSlip(int slip) {
            for (int i = 0; i < slipCount; i++) {
                if (slips[i] == slip) {
                    return true;
                }
            }
            return false;
        }

        /** The row of the HOUR to which a STEP belongs, the first STEP being 0. */
        int hourOf(int step) {
            return Math.max(0, Math.min(step / STEPS_IN_HOUR, hourCount - 1));
        }

        /** The STEP (the first being 0) from which on nothing falls as SNOW. */
        int snowlessFrom() {
            for (int hour = hourCount - 1; hour >= 0; hour--) {
                if (falls[hour] > falls[hour] * wets[hour] / 10) {
                    return hour == hourCount - 1 ? BEYOND : (hour + 1) * STEPS_IN_HOUR;
                }
            }
            return 0;
        }

        int weightOf(int slipBits) {
            int sum = 0;
            for (int i = 0; i < slipCount; i++) {
                if ((slipBits >> i & 1) != 0) {
                    sum += weights[i];
                }
            }
            return sum;
        }
    }

    /** Parts a text into TOKENS, one at a time. */
    private static final class Lexer {
        static final int END = 0;
        static final int BAD = 1;
        static final int WORD = 2;
        static final int NUMBER = 3;
        static final int SEMICOLON = 4;
        static final int MINUS = 5;

        static final int MOST_LETTERS = 8;
        static final int MOST_DIGITS = 4;

        static final String KEYWORDS =
            "yard way hour slip call harm depot store grass road bridge roof slope traffic warm takes fall temp wet weight ";
        static final int KEYWORD_COUNT = 20;
        static final int YARD = 0;
        static final int WAY = 1;
        static final int HOUR = 2;
        static final int SLIP = 3;
        static final int CALL = 4;
        static final int HARM = 5;
        static final int DEPOT = 6;
        static final int STORE = 7;
        /** The four sorts follow one another from here on. */
        static final int FIRST_SORT = 8;
        static final int SLOPE = 12;
        static final int TRAFFIC = 13;
        static final int WARM = 14;
        static final int TAKES = 15;
        static final int FALL = 16;
        static final int TEMP = 17;
        static final int WET = 18;
        static final int WEIGHT = 19;

        private final long[] keywordCodes = new long[KEYWORD_COUNT];
        private byte[] text = new byte[0];
        private int length = 0;
        private int next = 0;
        int kind = END;
        int place = 0;
        /** Of a NUMBER. */
        int value = 0;
        /** Of a WORD: its letters as one number, and which keyword it is (NONE: a NAME). */
        long code = 0;
        int keyword = NONE;

        Lexer() {
            int n = 0;
            long letters = 0;
            for (int i = 0; i < KEYWORDS.length() && n < KEYWORD_COUNT; i++) {
                char c = KEYWORDS.charAt(i);
                if (c == ' ') {
                    keywordCodes[n] = letters;
                    letters = 0;
                    n++;
                } else {
                    letters = withLetter(letters, c);
                }
            }
        }

        void begin(byte[] bytes, int count) {
            text = bytes;
            length = Math.min(count, bytes.length);
            next = 0;
            advance();
        }

        void advance() {
            while (next < length && (text[next] == 32 || text[next] == 10)) {
                next++;
            }
            place = next;
            keyword = NONE;
            if (next >= length) {
                kind = END;
            } else if (isLetter(text[next])) {
                scanWord();
            } else if (isDigit(text[next])) {
                scanNumber();
            } else {
                kind = text[next] == ';' ? SEMICOLON : text[next] == '-' ? MINUS : BAD;
                next++;
            }
        }

        private void scanWord() {
            code = 0;
            while (next < length && isLetter(text[next])) {
                code = withLetter(code, text[next]);
                next++;
            }
            kind = next - place > MOST_LETTERS ? BAD : WORD;
            if (kind == WORD) {
                keyword = keywordWith(code);
            }
        }

        private void scanNumber() {
            value = 0;
            while (next < length && isDigit(text[next])) {
                value = value * 10 + text[next] - '0';
                next++;
            }
            boolean runsIntoWord = next < length && isLetter(text[next]);
            kind = next - place > MOST_DIGITS || runsIntoWord ? BAD : NUMBER;
        }

        private int keywordWith(long letters) {
            for (int i = 0; i < KEYWORD_COUNT; i++) {
                if (keywordCodes[i] == letters) {
                    return i;
                }
            }
            return NONE;
        }

        private static boolean isLetter(int c) {
            return c >= 'a' && c <= 'z';
        }

        private static boolean isDigit(int c) {
            return c >= '0' && c <= '9';
        }

        /** Five bits a letter, none of them 0, so that no two words of 8 letters or fewer are alike. */
        private static long withLetter(long letters, int c) {
            return letters << 5 | c - 'a' + 1;
        }
    }

    /** Reads a LAND from a text; behind the first FAULT all that it does is nothing. */
    private static final class Parser {
        static final int NO_TOKEN = 1;
        static final int MISPLACED = 2;
        static final int TOLD_ALREADY = 3;
        static final int NO_SUCH_NUMBER = 4;
        static final int NO_SUCH_YARD = 5;

        private final Lexer lexer = new Lexer();
        private Land land;
        int faultNumber = 0;
        int faultPlace = NONE;
        /** Where the V that was read last began. */
        private int valuePlace = 0;

        Parser(Land into) {
            land = into;
        }

        boolean parse(byte[] text, int length, Land into) {
            faultNumber = 0;
            faultPlace = NONE;
            land = into;
            land.clear();
            lexer.begin(text, length);
            for (int i = 0; i <= length && faultNumber == 0 && lexer.kind != Lexer.END; i++) {
                switch (lexer.keyword) {
                    case Lexer.YARD: parseYard(); break;
                    case Lexer.WAY: parseWay(); break;
                    case Lexer.HOUR: parseHour(); break;
                    case Lexer.SLIP: parseSlip(); break;
                    case Lexer.CALL:
                    case Lexer.HARM:
                    case Lexer.DEPOT:
                    case Lexer.STORE: parseOnce(lexer.keyword); break;
                    default: refuseToken(); break;
                }
                takeSemicolon();
            }
            return faultNumber == 0;
        }

        private void parseYard() {
            if (land.yardCount >= MOST_YARDS) {
                refuseToken();
                return;
            }
            Told told = land.yards[land.yardCount];
            lexer.advance();
            int place = lexer.place;
            told.name = takeName();
            if (land.yardNamed(told.name) != NONE) {
                refuse(TOLD_ALREADY, place);
            }
            told.sort = takeSort();
            takeKeyword(Lexer.SLOPE);
            told.slope = takeNumber(0, 99);
            takeKeyword(Lexer.TRAFFIC);
            told.traffic = takeNumber(0, 99);
            takeKeyword(Lexer.WARM);
            parseLayers(told);
            land.yardCount++;
        }

        private void parseLayers(Told told) {
            told.warmth[0] = takeValue(-200, 200);
            told.layers = 1;
            for (int i = 1; i < MOST_LAYERS && isValueNext(); i++) {
                told.warmth[i] = takeValue(-200, 200);
                told.layers++;
            }
        }

        private void parseWay() {
            if (land.wayCount >= MOST_WAYS) {
                refuseToken();
                return;
            }
            lexer.advance();
            int from = takeYard();
            int place = lexer.place;
            int to = takeYard();
            if (from == to || land.hasWay(from, to)) {
                refuse(TOLD_ALREADY, place);
            }
            takeKeyword(Lexer.TAKES);
            land.wayFrom[land.wayCount] = from;
            land.wayTo[land.wayCount] = to;
            land.wayTakes[land.wayCount] = takeNumber(1, 60);
            land.wayCount++;
        }

        private void parseHour() {
            if (land.hourCount >= MOST_HOURS) {
                refuseToken();
                return;
            }
            lexer.advance();
            takeKeyword(Lexer.FALL);
            land.falls[land.hourCount] = takeNumber(0, 99);
            takeKeyword(Lexer.TEMP);
            land.temps[land.hourCount] = takeValue(-200, 200);
            takeKeyword(Lexer.WET);
            land.wets[land.hourCount] = takeNumber(0, 10);
            land.hourCount++;
        }

        private void parseSlip() {
            if (land.slipCount >= MOST_SLIPS) {
                refuseToken();
                return;
            }
            lexer.advance();
            int slip = takeValue(-MOST_SHIFT, MOST_SHIFT);
            if (land.hasSlip(slip)) {
                refuse(TOLD_ALREADY, valuePlace);
            }
            takeKeyword(Lexer.WEIGHT);
            land.slips[land.slipCount] = slip;
            land.weights[land.slipCount] = takeNumber(1, 99);
            land.slipCount++;
        }

        private void parseOnce(int keyword) {
            if ((land.toldOnce >> keyword & 1) != 0) {
                refuseToken();
                return;
            }
            land.toldOnce |= 1 << keyword;
            lexer.advance();
            if (keyword == Lexer.DEPOT) {
                land.depot = takeYard();
                return;
            }
            int number = takeNumber(0, 9999);
            if (keyword == Lexer.CALL) {
                land.callCost = number;
            } else if (keyword == Lexer.HARM) {
                land.harmCost = number;
            } else {
                land.storeTold = number;
            }
        }

        private void takeSemicolon() {
            if (faultNumber != 0) {
                return;
            }
            if (lexer.kind == Lexer.SEMICOLON) {
                lexer.advance();
            } else {
                refuseToken();
            }
        }

        private void takeKeyword(int keyword) {
            if (faultNumber != 0) {
                return;
            }
            if (lexer.keyword == keyword) {
                lexer.advance();
            } else {
                refuseToken();
            }
        }

        private int takeSort() {
            int sort = lexer.keyword - Lexer.FIRST_SORT;
            if (faultNumber != 0 || sort < GRASS || sort > ROOF) {
                refuseToken();
                return GRASS;
            }
            lexer.advance();
            return sort;
        }

        /** A NAME's code; 0, which no NAME has, behind a FAULT. */
        private long takeName() {
            if (faultNumber != 0 || lexer.kind != Lexer.WORD || lexer.keyword != NONE) {
                refuseToken();
                return 0;
            }
            long name = lexer.code;
            lexer.advance();
            return name;
        }

        private int takeYard() {
            int place = lexer.place;
            long name = takeName();
            int yard = land.yardNamed(name);
            if (yard == NONE) {
                refuse(NO_SUCH_YARD, place);
            }
            return yard;
        }

        private int takeNumber(int least, int most) {
            if (faultNumber != 0 || lexer.kind != Lexer.NUMBER) {
                refuseToken();
                return least;
            }
            int number = lexer.value;
            if (number < least || number > most) {
                refuse(NO_SUCH_NUMBER, lexer.place);
            }
            lexer.advance();
            return number;
        }

        private boolean isValueNext() {
            return faultNumber == 0 && (lexer.kind == Lexer.NUMBER || lexer.kind == Lexer.MINUS);
        }

        private int takeValue(int least, int most) {
            valuePlace = lexer.place;
            boolean minus = lexer.kind == Lexer.MINUS;
            if (minus) {
                lexer.advance();
            }
            if (faultNumber != 0 || lexer.kind != Lexer.NUMBER) {
                refuseToken();
                return least;
            }
            int number = minus ? -lexer.value : lexer.value;
            if (number < least || number > most) {
                refuse(NO_SUCH_NUMBER, valuePlace);
            }
            lexer.advance();
            return number;
        }

        private void refuseToken() {
            refuse(lexer.kind == Lexer.BAD ? NO_TOKEN : MISPLACED, lexer.place);
        }

        private void refuse(int number, int place) {
            if (faultNumber == 0) {
                faultNumber = number;
                faultPlace = place;
            }
        }
    }

    /** What one YARD has at one time. */
    private static final class Ground {
        /** How many numbers it is kept in. */
        static final int ROW = MOST_LAYERS + 4;
        private static final int LOWEST_POINT = -80;
        /** By sort: grass, road, bridge, roof. */
        private static final int[] TOP_PARTS = {2, 4, 4, 3};
        private static final int[] WATER_HELD = {60, 20, 20, 10};

        final int[] warmth = new int[MOST_LAYERS];
        int water = 0;
        int snow = 0;
        int ice = 0;
        int salt = 0;

        void begin(Told told) {
            System.arraycopy(told.warmth, 0, warmth, 0, MOST_LAYERS);
            water = 0;
            snow = 0;
            ice = 0;
            salt = 0;
        }

        void copy(Ground other) {
            System.arraycopy(other.warmth, 0, warmth, 0, MOST_LAYERS);
            water = other.water;
            snow = other.snow;
            ice = other.ice;
            salt = other.salt;
        }

        void keepIn(int[] row, int at) {
            System.arraycopy(warmth, 0, row, at, MOST_LAYERS);
            row[at + MOST_LAYERS] = water;
            row[at + MOST_LAYERS + 1] = snow;
            row[at + MOST_LAYERS + 2] = ice;
            row[at + MOST_LAYERS + 3] = salt;
        }

        void takeFrom(int[] row, int at) {
            System.arraycopy(row, at, warmth, 0, MOST_LAYERS);
            water = row[at + MOST_LAYERS];
            snow = row[at + MOST_LAYERS + 1];
            ice = row[at + MOST_LAYERS + 2];
            salt = row[at + MOST_LAYERS + 3];
        }

        boolean isWhite() {
            return snow >= 10;
        }

        boolean isBlocked(Told told) {
            return told.slope * (snow + 2 * ice) >= 1000;
        }

        void goStep(Told told, Land land, int step, int shift) {
            int hour = land.hourOf(step);
            warmBy(told, land.temps[hour] + shift);
            int rain = land.falls[hour] * land.wets[hour] / 10;
            water += rain;
            snow += land.falls[hour] - rain;
            meltOrFreeze();
            runOff(WATER_HELD[told.sort]);
            salt -= salt * told.traffic / 100;
            int packed = Math.min(snow, told.traffic / 20);
            snow -= packed;
            ice += packed;
        }

        private void warmBy(Told told, int temp) {
            int last = told.layers - 1;
            warmth[0] += (temp - warmth[0]) / TOP_PARTS[told.sort];
            if (told.sort == BRIDGE && last > 0) {
                warmth[last] += (temp - warmth[last]) / 4;
            }
            for (int i = 0; i < last; i++) {
                int passed = (warmth[i + 1] - warmth[i]) / 4;
                warmth[i] += passed;
                warmth[i + 1] -= passed;
            }
        }

        private void meltOrFreeze() {
            int point = Math.max(LOWEST_POINT, -(10 * salt / (water + snow + ice + 10)));
            int top = warmth[0];
            if (top > point) {
                int melted = Math.min(snow, (top - point) / 2);
                top -= 2 * melted;
                int thawed = Math.min(ice, (top - point) / 2);
                top -= 2 * thawed;
                snow -= melted;
                ice -= thawed;
                water += melted + thawed;
            } else {
                int frozen = Math.min(water, (point - top) / 2);
                top += 2 * frozen;
                water -= frozen;
                ice += frozen;
            }
            warmth[0] = top;
        }

        private void runOff(int held) {
            int over = water - held;
            if (over > 0) {
                salt -= salt * over / water;
                water = held;
            }
        }
    }

    /** What there is in earnest: YARDS, STEPS, SHIFT and the store. */
    private static final class Day {
        /** How many numbers it is kept in. */
        static final int ROW = MOST_YARDS * Ground.ROW + 3;

        Land land;
        final Ground[] grounds = new Ground[MOST_YARDS];
        int steps = 0;
        int slipped = 0;
        int stored;

        Day(Land told) {
            land = told;
            stored = told.storeTold;
            for (int i = 0; i < MOST_YARDS; i++) {
                grounds[i] = new Ground();
            }
        }

        void begin(Land told) {
            land = told;
            steps = 0;
            slipped = 0;
            stored = told.storeTold;
            for (int i = 0; i < told.yardCount; i++) {
                grounds[i].begin(told.yards[i]);
            }
        }

        void goStep() {
            for (int i = 0; i < land.yardCount; i++) {
                grounds[i].goStep(land.yards[i], land, steps, slipped);
            }
            steps++;
        }

        void strew(int yard, int salt) {
            grounds[yard].salt += salt;
            stored -= salt;
        }

        void keepIn(int[] row) {
            for (int i = 0; i < MOST_YARDS; i++) {
                grounds[i].keepIn(row, i * Ground.ROW);
            }
            row[ROW - 3] = steps;
            row[ROW - 2] = slipped;
            row[ROW - 1] = stored;
        }

        void takeFrom(int[] row) {
            for (int i = 0; i < MOST_YARDS; i++) {
                grounds[i].takeFrom(row, i * Ground.ROW);
            }
            steps = row[ROW - 3];
            slipped = row[ROW - 2];
            stored = row[ROW - 1];
        }
    }

    /** WHAT WOULD BE of one YARD. */
    private static final class Outlook {
        private final Ground ground = new Ground();

        /** The first STEP (1 .. 72) behind which it is WHITE, if so much SALT is spread behind a STEP (0 .. 71). */
        int firstWhite(Day day, int yard, int shift, int salt, int spreadBehind) {
            Land land = day.land;
            int snowless = land.snowlessFrom();
            ground.copy(day.grounds[yard]);
            for (int i = 0; i < AHEAD; i++) {
                if (i == spreadBehind) {
                    ground.salt += salt;
                }
                ground.goStep(land.yards[yard], land, day.steps + i, shift);
                if (ground.isWhite()) {
                    return i + 1;
                }
                // SNOW grows by what falls alone: what isn't WHITE now won't be without more of it
                if (day.steps + i + 1 >= snowless) {
                    return NONE;
                }
            }
            return NONE;
        }

        /** The last STEP (0 .. 71) behind which it has not been WHITE yet without SALT. */
        int lastInTime(Day day, int yard, int shift) {
            int white = firstWhite(day, yard, shift, 0, 0);
            return (white == NONE ? AHEAD : white) - 1;
        }

        int snowBehind(Day day, int yard, int shift, int step) {
            ground.copy(day.grounds[yard]);
            for (int i = 0; i < step; i++) {
                ground.goStep(day.land.yards[yard], day.land, day.steps + i, shift);
            }
            return ground.snow;
        }

        /** Adds a YARD's bit to the row of each STEP (0 .. 72) behind which it is BLOCKED by SHIFT 0. */
        void markBlocked(Day day, int yard, int[] blocked) {
            Told told = day.land.yards[yard];
            ground.copy(day.grounds[yard]);
            for (int i = 0; i <= AHEAD && i < blocked.length; i++) {
                if (ground.isBlocked(told)) {
                    blocked[i] |= 1 << yard;
                }
                ground.goStep(told, day.land, day.steps + i, 0);
            }
        }
    }

    /** PLAN: what it costs to call behind each STEP, or not to, by all SLIPS together. */
    private static final class Planner {
        private static final int LAST_CALL = 24;

        private int yardBits = 0;
        private int slipBits = 0;
        /** NONE: not to call. */
        int bestStep = NONE;
        int bestCost = 0;

        void weigh(Day day, Outlook outlook, int yards, int salt, int slips) {
            yardBits = yards;
            slipBits = slips;
            int fee = day.land.callCost * day.land.weightOf(slips);
            bestStep = NONE;
            bestCost = sumHarm(day, outlook, 0, 0, BEYOND);
            for (int step = 0; step <= LAST_CALL; step++) {
                // of like ones the first STEP, not to call last
                int most = bestStep == NONE ? bestCost : bestCost - 1;
                int cost = fee + sumHarm(day, outlook, salt, step, most - fee);
                if (cost <= most) {
                    bestStep = step;
                    bestCost = cost;
                }
            }
        }

        /** Harm if so much SALT is spread behind a STEP; as soon as it is above the most, that will do. */
        private int sumHarm(Day day, Outlook outlook, int salt, int step, int most) {
            Land land = day.land;
            int sum = 0;
            for (int i = 0; i < land.slipCount; i++) {
                for (int yard = 0; yard < land.yardCount && sum <= most; yard++) {
                    boolean counts = (slipBits >> i & 1) != 0 && (yardBits >> yard & 1) != 0;
                    if (counts && outlook.firstWhite(day, yard, land.slips[i], salt, step) != NONE) {
                        sum += land.harmCost * land.weights[i];
                    }
                }
            }
            return sum;
        }
    }

    /** ROUND: every order in turn. */
    private static final class Gritter {
        private static final int MOST_STOPS = 7;
        private static final int MOST_ORDERS = 5040;
        private static final int FAR = 1000000;

        private final int[] minutes = new int[MOST_YARDS * MOST_YARDS];
        /** By YARD and the STEP behind which it is salted: 0 not looked at yet, 1 never WHITE, 2 WHITE. */
        private final byte[] found = new byte[MOST_YARDS * AHEAD];
        private final int[] order = new int[MOST_STOPS];
        final int[] best = new int[MOST_STOPS];
        /** How many YARDS of an order lie there. */
        int count = 0;
        int fewestWhite = 0;
        int fewestMinutes = 0;

        void forget() {
            count = 0;
        }

        /** Finds the best order, which lies there then; false if there is none. */
        boolean goAbout(Day day, Outlook outlook, int yards, int salt) {
            Land land = day.land;
            int stops = Integer.bitCount(yards);
            if (land.depot == NONE || stops > MOST_STOPS) {
                return false;
            }
            measure(land);
            if (!lineUp(land, yards)) {
                return false;
            }
            Arrays.fill(found, (byte) 0);
            fewestWhite = stops + 1;
            fewestMinutes = 0;
            for (int i = 0; i < MOST_ORDERS; i++) {
                tryOrder(day, outlook, stops, salt);
                if (!nextOrder(stops)) {
                    break;
                }
            }
            count = stops;
            return true;
        }

        private void measure(Land land) {
            Arrays.fill(minutes, FAR);
            for (int i = 0; i < MOST_YARDS; i++) {
                minutes[i * MOST_YARDS + i] = 0;
            }
            for (int i = 0; i < land.wayCount; i++) {
                minutes[land.wayFrom[i] * MOST_YARDS + land.wayTo[i]] = land.wayTakes[i];
                minutes[land.wayTo[i] * MOST_YARDS + land.wayFrom[i]] = land.wayTakes[i];
            }
            for (int by = 0; by < land.yardCount; by++) {
                for (int from = 0; from < land.yardCount; from++) {
                    int there = minutes[from * MOST_YARDS + by];
                    for (int to = 0; to < land.yardCount && there < FAR; to++) {
                        int at = from * MOST_YARDS + to;
                        minutes[at] = Math.min(minutes[at], there + minutes[by * MOST_YARDS + to]);
                    }
                }
            }
        }

        /** The first order by YARDS' numbers; false if one of them can't be come to. */
        private boolean lineUp(Land land, int yards) {
            int n = 0;
            for (int yard = 0; yard < land.yardCount && n < MOST_STOPS; yard++) {
                if ((yards >> yard & 1) != 0) {
                    if (minutes[land.depot * MOST_YARDS + yard] >= FAR) {
                        return false;
                    }
                    order[n] = yard;
                    n++;
                }
            }
            return true;
        }

        private void tryOrder(Day day, Outlook outlook, int stops, int salt) {
            int minute = 0;
            for (int i = 0; i < stops; i++) {
                minute += minutesTo(i, day.land.depot);
            }
            if (fewestWhite == 0 && minute >= fewestMinutes) {
                return;
            }
            int white = countWhite(day, outlook, stops, salt);
            if (white < fewestWhite || white == fewestWhite && minute < fewestMinutes) {
                fewestWhite = white;
                fewestMinutes = minute;
                System.arraycopy(order, 0, best, 0, stops);
            }
        }

        /** From the YARD before, or the depot, to the i-th of the order. */
        private int minutesTo(int i, int depot) {
            int from = i == 0 ? depot : order[i - 1];
            return minutes[from * MOST_YARDS + order[i]];
        }

        private int countWhite(Day day, Outlook outlook, int stops, int salt) {
            int minute = 0;
            int white = 0;
            for (int i = 0; i < stops; i++) {
                minute += minutesTo(i, day.land.depot);
                int step = Math.min(AHEAD - 1, minute / MINUTES_IN_STEP);
                int at = order[i] * AHEAD + step;
                if (found[at] == 0) {
                    found[at] = (byte) (outlook.firstWhite(day, order[i], 0, salt, step) == NONE ? 1 : 2);
                }
                white += found[at] - 1;
            }
            return white;
        }

        /** The next order by YARDS' numbers; false behind the last one. */
        private boolean nextOrder(int stops) {
            int i = stops - 2;
            while (i >= 0 && order[i] > order[i + 1]) {
                i--;
            }
            if (i < 0) {
                return false;
            }
            int j = stops - 1;
            while (j > i && order[j] < order[i]) {
                j--;
            }
            swap(i, j);
            int low = i + 1;
            int high = stops - 1;
            while (low < high) {
                swap(low, high);
                low++;
                high--;
            }
            return true;
        }

        private void swap(int i, int j) {
            int held = order[i];
            order[i] = order[j];
            order[j] = held;
        }
    }

    /** OPEN: where the car can be at each minute. */
    private static final class Car {
        /** Bits of YARDS, by STEP. */
        private final int[] blocked = new int[AHEAD + 1];
        /** Bits of YARDS, by minute. */
        private final int[] there = new int[MOST_MINUTES + 1];

        void lookOut(Day day, Outlook outlook) {
            Arrays.fill(blocked, 0);
            for (int yard = 0; yard < day.land.yardCount; yard++) {
                outlook.markBlocked(day, yard, blocked);
            }
        }

        int fewestMinutes(Land land, int from, int to, int step) {
            Arrays.fill(there, 0);
            arrive(from, 0, step);
            for (int minute = 0; minute <= MOST_MINUTES; minute++) {
                if ((there[minute] >> to & 1) != 0) {
                    return minute;
                }
                for (int i = 0; i < land.wayCount && there[minute] != 0; i++) {
                    int then = minute + land.wayTakes[i];
                    if ((there[minute] >> land.wayFrom[i] & 1) != 0) {
                        arrive(land.wayTo[i], then, step);
                    }
                    if ((there[minute] >> land.wayTo[i] & 1) != 0) {
                        arrive(land.wayFrom[i], then, step);
                    }
                }
            }
            return NONE;
        }

        private void arrive(int yard, int minute, int step) {
            int behind = Math.min(AHEAD, step + minute / MINUTES_IN_STEP);
            if (minute <= MOST_MINUTES && (blocked[behind] >> yard & 1) == 0) {
                there[minute] |= 1 << yard;
            }
        }
    }

    /** GLASSES, each with the SLIPS by which it is so, and what one more could tell. */
    private static final class Glasses {
        private final int[] toldAt = new int[MOST_GLASSES];
        private final int[] untoldAt = new int[MOST_GLASSES];
        private final int[] fitting = new int[MOST_GLASSES];
        int count = 0;
        private final Ground ground = new Ground();
        private final int[] warmths = new int[MOST_SLIPS * MOST_LAYERS];
        int chosenYard = NONE;
        int chosenLayer = NONE;
        int chosenAlike = NONE;

        void clear() {
            count = 0;
        }

        int add(int time, int fits) {
            if (count >= MOST_GLASSES) {
                return NONE;
            }
            toldAt[count] = time;
            untoldAt[count] = NONE;
            fitting[count] = fits;
            count++;
            return count - 1;
        }

        boolean takeBack(int glass, int time) {
            if (glass < 0 || glass >= count || untoldAt[glass] != NONE) {
                return false;
            }
            untoldAt[glass] = time;
            return true;
        }

        /** Bits of the SLIPS that are LEFT as known at a TIME. */
        int leftAt(int time, Land land) {
            int bits = (1 << land.slipCount) - 1;
            for (int i = 0; i < count; i++) {
                boolean untold = untoldAt[i] != NONE && untoldAt[i] <= time;
                if (toldAt[i] <= time && !untold) {
                    bits &= fitting[i];
                }
            }
            return bits;
        }

        /** A YARD behind a STEP from the beginning by a SLIP, nobody having spread SALT. */
        void lookBack(Land land, int yard, int slip, int step) {
            Told told = land.yards[yard];
            ground.begin(told);
            for (int i = 0; i < step; i++) {
                ground.goStep(told, land, i, land.slips[slip]);
            }
        }

        int shown(int layer) {
            return ground.warmth[layer];
        }

        void choose(Land land, int step, int slipBits) {
            chosenAlike = MOST_SLIPS + 1;
            for (int yard = 0; yard < land.yardCount; yard++) {
                for (int slip = 0; slip < land.slipCount; slip++) {
                    if ((slipBits >> slip & 1) != 0) {
                        lookBack(land, yard, slip, step);
                        System.arraycopy(ground.warmth, 0, warmths, slip * MOST_LAYERS, MOST_LAYERS);
                    }
                }
                for (int layer = 0; layer < land.yards[yard].layers; layer++) {
                    int alike = mostAlike(layer, land.slipCount, slipBits);
                    if (alike < chosenAlike) {
                        chosenYard = yard;
                        chosenLayer = layer;
                        chosenAlike = alike;
                    }
                }
            }
        }

        private int mostAlike(int layer, int slipCount, int slipBits) {
            int most = 0;
            for (int i = 0; i < slipCount; i++) {
                int alike = 0;
                for (int j = 0; j < slipCount && (slipBits >> i & 1) != 0; j++) {
                    boolean same = warmths[i * MOST_LAYERS + layer] == warmths[j * MOST_LAYERS + layer];
                    alike += same && (slipBits >> j & 1) != 0 ? 1 : 0;
                }
                most = Math.max(most, alike);
            }
            return most;
        }
    }
}
