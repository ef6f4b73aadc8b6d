import java.util.Arrays;

/** A city in which left is right after noon; ../shared/DOC.md says what each call answers. */
public final class NoonCity {

    public static final int BAD = -1, STATE = -2, FULL = -3, NONE = -4;

    private static final int MOST_CORNERS = 8;
    private static final int FIRST_CORNERS = 4;
    private static final int MOST_WALKERS = 4;
    private static final int MOST_LETTERS = 10;
    private static final int MOST_SEEN = 8;
    private static final int MOST_BYTES = 160;
    private static final int MOST_CELLS = 40;
    private static final int MOST_READ = 20;
    private static final int MOST_HOURS = 60;
    private static final int LAST_HOUR = 999;
    private static final int WAY_LETTERS = 24;
    private static final int DAY = 24;
    private static final int NOON = 12;
    private static final int IMAGES = 2;
    private static final int SHEETS = 4;
    private static final int NOTHING = -1;

    private static final int NULL_FAULT = 1;
    private static final int INDEX_FAULT = 2;
    private static final int CAST_FAULT = 3;
    private static final int SIZE_FAULT = 4;

    private final City city;
    private final City trial;
    private final City[] images;
    private final Reader reader;
    private final Sheet[] sheets;
    private final Words words;
    private final Odds odds;
    private int imageBits;
    private int textFault;
    private int readFault;

    public NoonCity() {
        city = new City();
        trial = new City();
        images = new City[IMAGES];
        for (int k = 0; k < IMAGES; k++) {
            images[k] = new City();
        }
        reader = new Reader();
        sheets = new Sheet[SHEETS];
        for (int k = 0; k < SHEETS; k++) {
            sheets[k] = new Sheet();
        }
        words = new Words();
        odds = new Odds();
    }

    // ---- the text

    public int feed(int c) {
        if (c < 0 || c > 127) {
            return BAD;
        }
        if (reader.length >= MOST_BYTES) {
            return FULL;
        }
        reader.tape[reader.length] = c;
        reader.length++;
        return reader.length;
    }

    public int end(int n) {
        if (n < 0 || n > reader.length) {
            return BAD;
        }
        int had = reader.length;
        reader.length = n;
        return had;
    }

    public int text() {
        int lines = reader.readLines();
        reader.length = 0;
        textFault = reader.problem;
        if (textFault != 0) {
            return -10 - reader.place;
        }
        city.copyOf(reader.draft);
        imageBits = 0;
        return lines;
    }

    public int fault() {
        return textFault;
    }

    public int rule(int what) {
        switch (what) {
            case 0: return city.corners;
            case 1: return city.hour;
            case 2: return city.walkers;
            case 3: return city.signBits;
            case 4: return city.clashes;
            case 5: return oneIf(isTurned(city.hour));
            default: return BAD;
        }
    }

    public int corner(int c, int what) {
        if (!city.hasCorner(c) || !isZeroOrOne(what)) {
            return BAD;
        }
        return city.streetOf(c, what);
    }

    public int walker(int w, int what) {
        if (!city.hasWalker(w)) {
            return BAD;
        }
        Walker who = city.people[w];
        switch (what) {
            case 0: return who.place;
            case 1: return who.handIn(city.hour);
            case 2: return oneIf(who.keeper);
            case 3: return who.lettersLeft();
            default: return BAD;
        }
    }

    public int letter(int w, int i) {
        if (!city.hasWalker(w)) {
            return BAD;
        }
        Walker who = city.people[w];
        if (i < 0 || i >= who.length) {
            return BAD;
        }
        return who.letterAt(i);
    }

    public int gloves(int what) {
        switch (what) {
            case 0: return city.glovesFor(0, isTurned(city.hour));
            case 1: return city.glovesFor(1, isTurned(city.hour));
            case 2: return city.glovesFor(0, false) + city.glovesFor(1, false);
            default: return BAD;
        }
    }

    public int leads(int c, int side, int hour) {
        if (!city.hasCorner(c) || !isZeroOrOne(side) || !isHour(hour)) {
            return BAD;
        }
        return city.leadsTo(c, side, hour, false);
    }

    // ---- what is changed

    public int street(int c, int side, int to) {
        if (!city.hasCorner(c) || !isZeroOrOne(side) || to != NONE && !city.hasCorner(to)) {
            return BAD;
        }
        int was = city.streetOf(c, side);
        city.setStreet(c, side, to);
        return was;
    }

    public int sign(int c, boolean is) {
        if (!city.hasCorner(c)) {
            return BAD;
        }
        int was = oneIf(city.hasSign(c));
        if (is) {
            city.signBits |= 1 << c;
        } else {
            city.signBits &= ~(1 << c);
        }
        return was;
    }

    public int clock(int h) {
        if (!isHour(h)) {
            return BAD;
        }
        int was = city.hour % DAY;
        city.hour = h;
        return was;
    }

    public int put(int w, int c) {
        if (!city.hasWalker(w) || !city.hasCorner(c)) {
            return BAD;
        }
        Walker who = city.people[w];
        int was = who.place;
        who.place = c;
        return was;
    }

    public int keeps(int w, boolean is) {
        if (!city.hasWalker(w)) {
            return BAD;
        }
        Walker who = city.people[w];
        int was = oneIf(who.keeper);
        who.keeper = is;
        return was;
    }

    public int adds(int w, int letter) {
        if (!city.hasWalker(w) || !isZeroOrOne(letter)) {
            return BAD;
        }
        Walker who = city.people[w];
        if (who.length >= MOST_LETTERS) {
            return FULL;
        }
        who.addLetter(letter);
        return who.length;
    }

    public int again(int w) {
        if (!city.hasWalker(w)) {
            return BAD;
        }
        Walker who = city.people[w];
        int were = who.gone;
        who.gone = 0;
        return were;
    }

    public int buy(int kind, int n) {
        if (kind < 0 || kind >= city.gloveRow.length || n < 0 || n > 9) {
            return BAD;
        }
        int were = city.gloveRow[kind];
        city.gloveRow[kind] = n;
        return were;
    }

    // ---- hours

    public int go(int n) {
        if (n < 0 || n > MOST_HOURS) {
            return BAD;
        }
        if (city.hour + n > LAST_HOUR) {
            return FULL;
        }
        int come = 0;
        for (int i = 0; i < n; i++) {
            come += city.passHour();
        }
        return come;
    }

    public int ahead(int w, int n, int what) {
        if (!city.hasWalker(w) || n < 0 || n > MOST_HOURS || !isZeroOrOne(what)) {
            return BAD;
        }
        Walker who = city.people[w];
        if (what == 1) {
            return Math.max(0, who.lettersLeft() - n);
        }
        return city.placeBehind(who, who.place, n, who.keeper);
    }

    public int clash(int w, int v) {
        if (!city.hasWalker(w) || !city.hasWalker(v) || w == v) {
            return BAD;
        }
        Walker one = city.people[w];
        Walker other = city.people[v];
        int from = one.place;
        int otherFrom = other.place;
        for (int i = 0; i < MOST_LETTERS; i++) {
            int to = city.nextPlace(one, from, i, one.keeper);
            int otherTo = city.nextPlace(other, otherFrom, i, other.keeper);
            if (isHeadOn(from, to, otherFrom, otherTo)) {
                return i + 1;
            }
            from = to;
            otherFrom = otherTo;
        }
        return NONE;
    }

    // ---- ways

    public int way(int a, int b, int hour, int what) {
        if (!city.hasCorner(a) || !city.hasCorner(b) || !isHour(hour) || !isWordAsk(what)) {
            return BAD;
        }
        return askWord(a, b, hour, hour, what);
    }

    public int both(int a, int b, int hour, int what) {
        if (!city.hasCorner(a) || !city.hasCorner(b) || !isHour(hour) || !isWordAsk(what)) {
            return BAD;
        }
        return askWord(a, b, hour, hour + NOON, what);
    }

    public int reach(int a, int hour, int n) {
        if (!city.hasCorner(a) || !isHour(hour) || n < 0 || n > WAY_LETTERS) {
            return BAD;
        }
        return city.within(1 << a, n);
    }

    public int when(int a, int b, int what) {
        if (!city.hasCorner(a) || !city.hasCorner(b) || !isZeroOrOne(what)) {
            return BAD;
        }
        int letters = city.distance(a, b);
        if (letters < 0) {
            return NONE;
        }
        // All hours are alike (see City.within), so the first one is the best one.
        return what == 0 ? 0 : letters;
    }

    public int signs(int a, int b, int n) {
        if (!city.hasCorner(a) || !city.hasCorner(b) || n < 1 || n > WAY_LETTERS) {
            return BAD;
        }
        int letters = city.distance(a, b);
        // A sign only changes which letter leads where, so none helps and none is needed.
        return letters < 0 || letters > n ? NONE : 0;
    }

    // ---- who meets

    public int meet(int w, int v, int what) {
        if (!city.hasWalker(w) || !city.hasWalker(v) || w == v || !isZeroOrOne(what)) {
            return BAD;
        }
        int mine = 1 << city.people[w].place;
        int yours = 1 << city.people[v].place;
        for (int n = 0; n <= WAY_LETTERS; n++) {
            if ((mine & yours) != 0) {
                return what == 0 ? n : lowestOf(mine & yours);
            }
            mine = city.within(mine, 1);
            yours = city.within(yours, 1);
        }
        return NONE;
    }

    public int shake(int w, int v) {
        if (!city.hasWalker(w) || !city.hasWalker(v) || w == v) {
            return BAD;
        }
        for (int hour = 0; hour < DAY; hour++) {
            if (city.people[w].handIn(hour) == city.people[v].handIn(hour)) {
                return hour;
            }
        }
        return NONE;
    }

    public int pairs(int hour) {
        if (!isHour(hour)) {
            return BAD;
        }
        int right = 0;
        for (int w = 0; w < city.walkers; w++) {
            right += city.people[w].handIn(hour);
        }
        return right / 2 + (city.walkers - right) / 2;
    }

    public int needs(int l, int r, int what) {
        if (l < 0 || l > 9 || r < 0 || r > 9 || !isZeroOrOne(what)) {
            return BAD;
        }
        int fewest = 4 * 9 + 1;
        int least = 0;
        // The turned kinds are worth what the lesser of them is; the kept ones fill what lacks.
        for (int left = 0; left <= 9; left++) {
            for (int right = 0; right <= 9; right++) {
                int sure = Math.min(city.gloveRow[0] + left, city.gloveRow[1] + right);
                int leftKept = Math.max(0, l - sure - city.gloveRow[2]);
                int rightKept = Math.max(0, r - sure - city.gloveRow[3]);
                int all = left + right + leftKept + rightKept;
                if (all < fewest) {
                    fewest = all;
                    least = 1000 * left + 100 * right + 10 * leftKept + rightKept;
                }
            }
        }
        return what == 0 ? fewest : least;
    }

    // ---- odds, who began where

    public long luck(int w, int v, int c, int what) {
        if (!city.hasWalker(w) || v < 0 || v > 10 || !city.hasCorner(c) || !isZeroOrOne(what)) {
            return BAD;
        }
        odds.weigh(city, city.people[w], v);
        long share = commonDivisor(odds.weights[c], odds.whole);
        if (share < 1) {
            return what;
        }
        return what == 0 ? odds.weights[c] / share : odds.whole / share;
    }

    public int see(int w, int n, int c, boolean is) {
        if (!city.hasWalker(w) || n < 0 || n > MOST_LETTERS || !city.hasCorner(c)) {
            return BAD;
        }
        if (city.seen >= MOST_SEEN) {
            return FULL;
        }
        city.addSight(w, n, c, is);
        return city.seen;
    }

    public int forget(int n) {
        if (n < 0 || n > city.seen) {
            return BAD;
        }
        int were = city.seen;
        city.seen = n;
        return were;
    }

    public int fits(int w, int what) {
        if (!city.hasWalker(w) || !isZeroOrOne(what)) {
            return BAD;
        }
        int bits = 0;
        for (int c = 0; c < city.corners; c++) {
            if (city.isAsSeen(w, c, what == 1)) {
                bits |= 1 << c;
            }
        }
        return bits;
    }

    // ---- by a seed

    public int drift(int seed, int n, int what) {
        if (n < 1 || n > MOST_HOURS || !isZeroOrOne(what)) {
            return BAD;
        }
        trial.copyOf(city);
        int come = trial.driftBy(seed, n);
        return what == 0 ? come : trial.placeBits();
    }

    // ---- images, sheets

    public int keep(int k) {
        if (k < 0 || k >= IMAGES) {
            return BAD;
        }
        int was = imageBits >> k & 1;
        images[k].copyOf(city);
        imageBits |= 1 << k;
        return was;
    }

    public int back(int k) {
        if (k < 0 || k >= IMAGES) {
            return BAD;
        }
        if ((imageBits >> k & 1) == 0) {
            return STATE;
        }
        city.copyOf(images[k]);
        return city.hour;
    }

    public int sheet(int k, int lane, int n) {
        if (k < 0 || k >= SHEETS || !isLane(lane) || n > MOST_CELLS) {
            return BAD;
        }
        if (n < 0) {
            return -10 - SIZE_FAULT;
        }
        sheets[k].makeNew(lane, n);
        return 1;
    }

    public int lay(int k, int i, int v) {
        if (k < 0 || k >= SHEETS) {
            return BAD;
        }
        Sheet page = sheets[k];
        if (page.size < 0) {
            return -10 - NULL_FAULT;
        }
        if (i < 0 || i >= page.size) {
            return -10 - INDEX_FAULT;
        }
        page.cells[i] = page.cut(v);
        return 1;
    }

    public int read(int k, int lane, int f, int n) {
        if (k < 0 || k >= SHEETS || !isLane(lane) || n < 0 || n > MOST_READ) {
            return BAD;
        }
        Sheet page = sheets[k];
        int whole = page.wholePairs(lane, f, n);
        for (int i = 0; i < whole; i++) {
            int at = f + 2 * i;
            if (!city.hasWalker(page.cellAt(at)) || !city.hasCorner(page.cellAt(at + 1))) {
                return -20 - i;
            }
        }
        for (int i = 0; i < whole; i++) {
            int at = f + 2 * i;
            put(page.cellAt(at), page.cellAt(at + 1));
        }
        readFault = whole == n ? 0 : page.faultAs(lane);
        return whole;
    }

    public int torn() {
        return readFault;
    }

    public int count(int what) {
        switch (what) {
            case 0: return city.countStreets();
            case 1: return city.seen;
            case 2: return Integer.bitCount(imageBits);
            case 3: return reader.length;
            case 4: return sheets[0].size < 0 ? NONE : sheets[0].size;
            case 5: return city.countLetters();
            case 6: return Integer.bitCount(city.placeBits());
            default: return BAD;
        }
    }

    // ---- what many calls need

    private static int oneIf(boolean is) {
        return is ? 1 : 0;
    }

    private static boolean isZeroOrOne(int n) {
        return n == 0 || n == 1;
    }

    private static boolean isHour(int hour) {
        return hour >= 0 && hour < DAY;
    }

    private static boolean isLane(int lane) {
        return lane >= 0 && lane <= 2;
    }

    private static boolean isWordAsk(int what) {
        return what == 0 || what >= 10 && what < 10 + WAY_LETTERS;
    }

    private static boolean isTurned(int hour) {
        return hour % DAY >= NOON;
    }

    private static boolean isHeadOn(int from, int to, int otherFrom, int otherTo) {
        return from != to && to == otherFrom && from == otherTo;
    }

    private static int lowestOf(int bits) {
        for (int c = 0; c < MOST_CORNERS; c++) {
            if ((bits >> c & 1) == 1) {
                return c;
            }
        }
        return NONE;
    }

    private static long commonDivisor(long a, long b) {
        long one = a;
        long other = b;
        for (int i = 0; i < 200 && other != 0; i++) {
            long rest = one % other;
            one = other;
            other = rest;
        }
        return one;
    }

    private int askWord(int a, int b, int hour, int otherHour, int what) {
        int letters = words.shortest(city, a, b, hour, otherHour);
        if (what == 0 || letters < 0) {
            return letters;
        }
        return what - 10 < letters ? words.letterOf(city, a, b, letters, what - 10) : NONE;
    }

    /** One who goes by a route, and has a hand. */
    private static final class Walker {
        int place;
        int hand;
        boolean keeper;
        int route;
        int length;
        int gone;

        Walker() {
        }

        void copyOf(Walker other) {
            place = other.place;
            hand = other.hand;
            keeper = other.keeper;
            route = other.route;
            length = other.length;
            gone = other.gone;
        }

        void begin(int corner, boolean keepsSide) {
            place = corner;
            hand = 0;
            keeper = keepsSide;
            route = 0;
            length = 0;
            gone = 0;
        }

        void addLetter(int side) {
            route |= side << length;
            length++;
        }

        int letterAt(int i) {
            return route >> i & 1;
        }

        int lettersLeft() {
            return length - gone;
        }

        int handIn(int hour) {
            return isTurned(hour) && !keeper ? 1 - hand : hand;
        }
    }

    /** All that an image holds: streets, signs, hour, walkers, clashes, gloves, what was seen. */
    private static final class City {
        int corners;
        int signBits;
        int hour;
        int clashes;
        int walkers;
        int seen;
        final int[] streets;
        final Walker[] people;
        final int[] gloveRow;
        final int[] seenWho;
        final int[] seenHours;
        final int[] seenPlace;
        final int[] seenIs;
        final int[] goal;

        City() {
            streets = new int[2 * MOST_CORNERS];
            people = new Walker[MOST_WALKERS];
            for (int w = 0; w < MOST_WALKERS; w++) {
                people[w] = new Walker();
            }
            gloveRow = new int[4];
            seenWho = new int[MOST_SEEN];
            seenHours = new int[MOST_SEEN];
            seenPlace = new int[MOST_SEEN];
            seenIs = new int[MOST_SEEN];
            goal = new int[MOST_WALKERS];
            corners = FIRST_CORNERS;
            Arrays.fill(streets, NONE);
        }

        void clear() {
            corners = FIRST_CORNERS;
            signBits = 0;
            hour = 0;
            clashes = 0;
            walkers = 0;
            seen = 0;
            Arrays.fill(streets, NONE);
            Arrays.fill(gloveRow, 0);
        }

        void copyOf(City other) {
            corners = other.corners;
            signBits = other.signBits;
            hour = other.hour;
            clashes = other.clashes;
            walkers = other.walkers;
            seen = other.seen;
            for (int w = 0; w < MOST_WALKERS; w++) {
                people[w].copyOf(other.people[w]);
            }
            System.arraycopy(other.streets, 0, streets, 0, streets.length);
            System.arraycopy(other.gloveRow, 0, gloveRow, 0, gloveRow.length);
            System.arraycopy(other.seenWho, 0, seenWho, 0, MOST_SEEN);
            System.arraycopy(other.seenHours, 0, seenHours, 0, MOST_SEEN);
            System.arraycopy(other.seenPlace, 0, seenPlace, 0, MOST_SEEN);
            System.arraycopy(other.seenIs, 0, seenIs, 0, MOST_SEEN);
        }

        boolean tellsCornerThatIsNot() {
            for (int i = 0; i < streets.length; i++) {
                if (streets[i] != NONE && (i / 2 >= corners || streets[i] >= corners)) {
                    return true;
                }
            }
            for (int w = 0; w < walkers; w++) {
                if (people[w].place >= corners) {
                    return true;
                }
            }
            return signBits >> corners != 0;
        }

        boolean hasCorner(int c) {
            return c >= 0 && c < corners;
        }

        boolean hasWalker(int w) {
            return w >= 0 && w < walkers;
        }

        boolean hasSign(int c) {
            return (signBits >> c & 1) == 1;
        }

        int streetOf(int c, int side) {
            int at = 2 * c + side;
            return at >= 0 && at < streets.length ? streets[at] : NONE;
        }

        void setStreet(int c, int side, int to) {
            int at = 2 * c + side;
            if (at >= 0 && at < streets.length) {
                streets[at] = to;
            }
        }

        int leadsTo(int c, int side, int inHour, boolean keepsSide) {
            boolean other = isTurned(inHour) && !keepsSide && !hasSign(c);
            return streetOf(c, other ? 1 - side : side);
        }

        int comesTo(int c, int side, int inHour, boolean keepsSide) {
            int to = leadsTo(c, side, inHour, keepsSide);
            return to == NONE ? c : to;
        }

        /** Where the one at a corner is behind the hour that is the i-th from now on. */
        int nextPlace(Walker who, int from, int i, boolean keepsSide) {
            if (i >= who.lettersLeft()) {
                return from;
            }
            return comesTo(from, who.letterAt(who.gone + i), hour + i, keepsSide);
        }

        int placeBehind(Walker who, int from, int n, boolean keepsSide) {
            int c = from;
            for (int i = 0; i < n; i++) {
                c = nextPlace(who, c, i, keepsSide);
            }
            return c;
        }

        int passHour() {
            for (int w = 0; w < walkers; w++) {
                Walker who = people[w];
                goal[w] = nextPlace(who, who.place, 0, who.keeper);
                who.gone = Math.min(who.gone + 1, who.length);
            }
            return endHour();
        }

        int driftBy(int seed, int n) {
            int now = seed;
            int come = 0;
            for (int i = 0; i < n; i++) {
                for (int w = 0; w < walkers; w++) {
                    now = now * 1103515245 + 12345;
                    int side = (now >>> 16 & 0x7FFF) % 3;
                    Walker who = people[w];
                    goal[w] = side == 2 ? who.place : comesTo(who.place, side, hour, who.keeper);
                }
                come += endHour();
            }
            return come;
        }

        /** All come to their goals at once. */
        private int endHour() {
            int come = 0;
            for (int w = 0; w < walkers; w++) {
                for (int v = 0; v < w; v++) {
                    if (isHeadOn(people[w].place, goal[w], people[v].place, goal[v])) {
                        come++;
                    }
                }
            }
            for (int w = 0; w < walkers; w++) {
                people[w].place = goal[w];
            }
            clashes += come;
            hour++;
            return come;
        }

        /**
         * Corners to which n letters or fewer lead from one of some corners. Neither the hour nor a
         * sign counts: they change which letter is for which street, but both letters are free.
         */
        int within(int from, int n) {
            int bits = from;
            for (int i = 0; i < n; i++) {
                int more = bits;
                for (int c = 0; c < corners; c++) {
                    if ((bits >> c & 1) == 1) {
                        more |= bitOf(streetOf(c, 0)) | bitOf(streetOf(c, 1));
                    }
                }
                bits = more;
            }
            return bits;
        }

        private int bitOf(int c) {
            return hasCorner(c) ? 1 << c : 0;
        }

        /** How many letters the shortest way has, below 0 if there is none. */
        int distance(int a, int b) {
            int bits = bitOf(a);
            for (int n = 0; n <= WAY_LETTERS; n++) {
                if ((bits & bitOf(b)) != 0) {
                    return n;
                }
                bits = within(bits, 1);
            }
            return NOTHING;
        }

        void addSight(int w, int n, int c, boolean is) {
            if (seen < MOST_SEEN) {
                seenWho[seen] = w;
                seenHours[seen] = n;
                seenPlace[seen] = c;
                seenIs[seen] = oneIf(is);
                seen++;
            }
        }

        boolean isAsSeen(int w, int from, boolean keepsSide) {
            for (int i = 0; i < seen; i++) {
                if (seenWho[i] == w) {
                    int c = placeBehind(people[w], from, seenHours[i], keepsSide);
                    if (oneIf(c == seenPlace[i]) != seenIs[i]) {
                        return false;
                    }
                }
            }
            return true;
        }

        int glovesFor(int hand, boolean turned) {
            return gloveRow[turned ? 1 - hand : hand] + gloveRow[2 + hand];
        }

        int placeBits() {
            int bits = 0;
            for (int w = 0; w < walkers; w++) {
                bits |= 1 << people[w].place;
            }
            return bits;
        }

        int countStreets() {
            int n = 0;
            for (int i = 0; i < streets.length; i++) {
                n += oneIf(streets[i] != NONE);
            }
            return n;
        }

        int countLetters() {
            int n = 0;
            for (int w = 0; w < walkers; w++) {
                n += people[w].lettersLeft();
            }
            return n;
        }
    }

    /**
     * The shortest word that leads two who begin in two hours (alike ones, too) from a to b. The two
     * are a pair, a number below 64; a long is a set of pairs, a row of them one set a letter.
     */
    private static final class Words {
        private static final int PAIRS = MOST_CORNERS * MOST_CORNERS;

        private final long[] rows;
        private int hour;
        private int otherHour;

        Words() {
            rows = new long[WAY_LETTERS + 1];
        }

        int shortest(City city, int a, int b, int begun, int otherBegun) {
            hour = begun;
            otherHour = otherBegun;
            rows[0] = bitOf(pairOf(a, a));
            for (int i = 0; i < WAY_LETTERS; i++) {
                if ((rows[i] & bitOf(pairOf(b, b))) != 0) {
                    return i;
                }
                rows[i + 1] = stepAll(city, rows[i], i);
            }
            return (rows[WAY_LETTERS] & bitOf(pairOf(b, b))) != 0 ? WAY_LETTERS : NONE;
        }

        /** Letter i of the first word of so many letters, as the latest shortest() found them. */
        int letterOf(City city, int a, int b, int letters, int i) {
            if (letters < 0 || letters > WAY_LETTERS) {
                return NONE;
            }
            rows[letters] = bitOf(pairOf(b, b));
            for (int k = letters - 1; k >= 0; k--) {
                rows[k] = thoseThatStepInto(city, rows[k + 1], rows[k], k);
            }
            int pair = pairOf(a, a);
            int found = NONE;
            for (int k = 0; k <= i && k < letters; k++) {
                int left = step(city, pair, 0, k);
                found = (bitOf(left) & rows[k + 1]) != 0 ? 0 : 1;
                pair = found == 0 ? left : step(city, pair, 1, k);
            }
            return found;
        }

        private long stepAll(City city, long from, int i) {
            long to = 0;
            for (int pair = 0; pair < PAIRS; pair++) {
                if ((from & bitOf(pair)) != 0) {
                    to |= bitOf(step(city, pair, 0, i)) | bitOf(step(city, pair, 1, i));
                }
            }
            return to;
        }

        private long thoseThatStepInto(City city, long goal, long among, int i) {
            long those = 0;
            for (int pair = 0; pair < PAIRS; pair++) {
                if ((among & bitOf(pair)) != 0
                        && ((bitOf(step(city, pair, 0, i)) | bitOf(step(city, pair, 1, i))) & goal) != 0) {
                    those |= bitOf(pair);
                }
            }
            return those;
        }

        private int step(City city, int pair, int side, int i) {
            if (pair < 0) {
                return NOTHING;
            }
            int one = city.leadsTo(pair / MOST_CORNERS, side, hour + i, false);
            int other = city.leadsTo(pair % MOST_CORNERS, side, otherHour + i, false);
            return one == NONE || other == NONE ? NOTHING : pairOf(one, other);
        }

        private static int pairOf(int one, int other) {
            return one * MOST_CORNERS + other;
        }

        private static long bitOf(int pair) {
            return pair < 0 ? 0 : 1L << pair;
        }
    }

    /** Where one who misreads comes to: a weight for each corner, in a whole of ten to the letters. */
    private static final class Odds {
        final long[] weights;
        private final long[] next;
        long whole;

        Odds() {
            weights = new long[MOST_CORNERS];
            next = new long[MOST_CORNERS];
            whole = 1;
        }

        void weigh(City city, Walker who, int tenths) {
            Arrays.fill(weights, 0L);
            if (city.hasCorner(who.place)) {
                weights[who.place] = 1;
            }
            whole = 1;
            for (int i = 0; i < who.lettersLeft(); i++) {
                takeLetter(city, who, i, tenths);
                whole *= 10;
            }
        }

        private void takeLetter(City city, Walker who, int i, int tenths) {
            int side = who.letterAt(who.gone + i);
            Arrays.fill(next, 0L);
            for (int c = 0; c < city.corners; c++) {
                int well = city.comesTo(c, side, city.hour + i, who.keeper);
                int badly = city.comesTo(c, 1 - side, city.hour + i, who.keeper);
                if (city.hasCorner(well) && city.hasCorner(badly)) {
                    next[well] += weights[c] * (10 - tenths);
                    next[badly] += weights[c] * tenths;
                }
            }
            System.arraycopy(next, 0, weights, 0, MOST_CORNERS);
        }
    }

    /** A row of bytes, shorts or ints, or nothing. */
    private static final class Sheet {
        final int[] cells;
        private int lane;
        int size;

        Sheet() {
            cells = new int[MOST_CELLS];
            size = NOTHING;
        }

        void makeNew(int ofLane, int n) {
            lane = ofLane;
            size = n;
            Arrays.fill(cells, 0);
        }

        int cut(int v) {
            if (lane == 0) {
                return (byte) v;
            }
            return lane == 1 ? (short) v : v;
        }

        int cellAt(int i) {
            return i >= 0 && i < cells.length ? cells[i] : NOTHING;
        }

        /** How many of n pairs of cells the machine gives, from cell f on. */
        int wholePairs(int asLane, int f, int n) {
            if (size < 0 || asLane != lane || f < 0) {
                return 0;
            }
            int whole = 0;
            for (int i = 0; i < n; i++) {
                if (f < size - 1 - 2 * i) {
                    whole++;
                }
            }
            return whole;
        }

        /** What the machine finds where it gives fewer pairs than wanted. */
        int faultAs(int asLane) {
            if (size < 0) {
                return NULL_FAULT;
            }
            return asLane != lane ? CAST_FAULT : INDEX_FAULT;
        }
    }

    /** The tape, and the reading of it, a token when the one before has been taken. */
    private static final class Reader {
        private static final int WORD = 1, NUMBER = 2, STOP = 3, END = 4;
        private static final int CITY = 0, LEFT = 1, RIGHT = 2, SIGN = 3, HOUR = 4;
        private static final int WALKER = 5, KEEPER = 6, GLOVES = 7, LINES = 8;

        final int[] tape;
        int length;
        int problem;
        int place;
        final City draft;
        private int at;
        private int kind;
        private int first;
        private final int[] told;

        Reader() {
            draft = new City();
            tape = new int[MOST_BYTES];
            told = new int[LINES];
        }

        /** How many lines there are; the fault is in problem, its place in place. */
        int readLines() {
            draft.clear();
            Arrays.fill(told, 0);
            problem = 0;
            place = 0;
            at = 0;
            int lines = 0;
            while (lines < MOST_BYTES && nextToken() && kind != END && takeLine() && nextOf(STOP)) {
                lines++;
            }
            if (problem == 0 && draft.tellsCornerThatIsNot()) {
                refuse(6, length);
            }
            return lines;
        }

        private boolean refuse(int what, int where) {
            problem = what;
            place = where;
            return false;
        }

        private int byteAt(int i) {
            return i >= 0 && i < length && i < tape.length ? tape[i] : NOTHING;
        }

        private static boolean isLetter(int c) {
            return c >= 'a' && c <= 'z';
        }

        private static boolean isFigure(int c) {
            return c >= '0' && c <= '9';
        }

        private boolean nextToken() {
            while (at < length && byteAt(at) == ' ') {
                at++;
            }
            first = at;
            int c = byteAt(at);
            if (c == NOTHING) {
                kind = END;
                return true;
            }
            if (c == ';') {
                kind = STOP;
                at++;
                return true;
            }
            kind = isLetter(c) ? WORD : NUMBER;
            while (at < length && (kind == WORD ? isLetter(byteAt(at)) : isFigure(byteAt(at)))) {
                at++;
            }
            // What begins no token has no letter and no figure, so nothing was passed.
            if (at == first || kind == NUMBER && at - first > 2) {
                return refuse(1, first);
            }
            return true;
        }

        private boolean nextOf(int wanted) {
            if (!nextToken()) {
                return false;
            }
            return kind == wanted || refuse(2, first);
        }

        /** A number from low to high, below 0 if it is refused. */
        private int takeNumber(int low, int high) {
            if (!nextToken()) {
                return NOTHING;
            }
            if (kind != NUMBER) {
                refuse(2, first);
                return NOTHING;
            }
            int n = 0;
            for (int i = first; i < at; i++) {
                n = 10 * n + byteAt(i) - '0';
            }
            if (n < low || n > high) {
                refuse(3, first);
                return NOTHING;
            }
            return n;
        }

        private boolean isWord(String word) {
            if (word.length() != at - first) {
                return false;
            }
            for (int i = 0; i < word.length(); i++) {
                if (byteAt(first + i) != word.charAt(i)) {
                    return false;
                }
            }
            return true;
        }

        private static String wordOf(int line) {
            switch (line) {
                case CITY: return "city";
                case LEFT: return "left";
                case RIGHT: return "right";
                case SIGN: return "sign";
                case HOUR: return "hour";
                case WALKER: return "walker";
                case KEEPER: return "keeper";
                default: return "gloves";
            }
        }

        private int lineOfWord() {
            for (int line = 0; line < LINES; line++) {
                if (isWord(wordOf(line))) {
                    return line;
                }
            }
            return NOTHING;
        }

        /** A line from its word on, but for the sign behind it. */
        private boolean takeLine() {
            int line = kind == WORD ? lineOfWord() : NOTHING;
            switch (line) {
                case CITY: return takeCity();
                case LEFT: return takeStreet(line, 0);
                case RIGHT: return takeStreet(line, 1);
                case SIGN: return takeSign();
                case HOUR: return takeHour();
                case WALKER: return takeWalker(false);
                case KEEPER: return takeWalker(true);
                case GLOVES: return takeGloves();
                default: return refuse(2, first);
            }
        }

        /** Marks that a thing of a line has been told, refuses it at its token the second time. */
        private boolean tellOnce(int line, int thing) {
            if (line < 0 || line >= told.length) {
                return false;
            }
            if ((told[line] >> thing & 1) == 1) {
                return refuse(4, first);
            }
            told[line] |= 1 << thing;
            return true;
        }

        private boolean takeCity() {
            if (!tellOnce(CITY, 0)) {
                return false;
            }
            int n = takeNumber(2, MOST_CORNERS);
            if (n >= 0) {
                draft.corners = n;
            }
            return n >= 0;
        }

        private boolean takeStreet(int line, int side) {
            int from = takeNumber(0, MOST_CORNERS - 1);
            if (from < 0 || !tellOnce(line, from)) {
                return false;
            }
            int to = takeNumber(0, MOST_CORNERS - 1);
            if (to < 0) {
                return false;
            }
            draft.setStreet(from, side, to);
            return true;
        }

        private boolean takeSign() {
            int c = takeNumber(0, MOST_CORNERS - 1);
            if (c < 0 || !tellOnce(SIGN, c)) {
                return false;
            }
            draft.signBits |= 1 << c;
            return true;
        }

        private boolean takeHour() {
            if (!tellOnce(HOUR, 0)) {
                return false;
            }
            int n = takeNumber(0, DAY - 1);
            if (n >= 0) {
                draft.hour = n;
            }
            return n >= 0;
        }

        private boolean takeGloves() {
            if (!tellOnce(GLOVES, 0)) {
                return false;
            }
            for (int i = 0; i < draft.gloveRow.length; i++) {
                int n = takeNumber(0, 9);
                if (n < 0) {
                    return false;
                }
                draft.gloveRow[i] = n;
            }
            return true;
        }

        private boolean takeWalker(boolean keeper) {
            if (draft.walkers >= MOST_WALKERS) {
                return refuse(5, first);
            }
            int c = takeNumber(0, MOST_CORNERS - 1);
            if (c < 0) {
                return false;
            }
            Walker who = draft.people[draft.walkers];
            who.begin(c, keeper);
            draft.walkers++;
            return nextOf(WORD) && takeHand(who) && nextOf(WORD) && takeRoute(who);
        }

        private boolean takeHand(Walker who) {
            who.hand = isWord("right") ? 1 : 0;
            return who.hand == 1 || isWord("left") || refuse(2, first);
        }

        private boolean takeRoute(Walker who) {
            if (at - first > MOST_LETTERS) {
                return refuse(3, first);
            }
            for (int i = first; i < at; i++) {
                int c = byteAt(i);
                if (c != 'l' && c != 'r') {
                    return refuse(3, first);
                }
                who.addLetter(c == 'r' ? 1 : 0);
            }
            return true;
        }
    }
}
