import java.util.Random;

/** All promises: runs of 512 calls by a seed, each answer beside that of the model. */
public final class RandomTest {
    private static final int RUNS = 4000;
    private static final int CALLS = 512;
    /** As many as a look at all makes, and as any other step makes but a text. */
    private static final int LOOK = 80;
    private static final int STEP = 24;
    private static final int[] EDGES = {Integer.MIN_VALUE, Integer.MIN_VALUE + 1, -65536, -256, -32, -5, -4, -3, -2, -1,
        10, 11, 24, 25, 32, 33, 40, 41, 60, 61, 64, 127, 128, 160, 161, 255, 256, 1000, 65536, 1 << 30,
        Integer.MAX_VALUE - 1, Integer.MAX_VALUE};

    private static final Due due = new Due();
    private static Random by;
    private static NoonCity x;
    private static Model m;
    private static int run;
    private static int calls;
    private static boolean wild;

    public static void main(String[] args) {
        for (run = 0; run < RUNS; run++) {
            by = new Random(run);
            x = new NoonCity();
            m = new Model();
            calls = 0;
            wild = false;
            if (by.nextInt(8) > 0) {
                text(city());
            }
            wild = run % 10 == 9;
            while (calls < CALLS - LOOK - STEP) {
                int kind = by.nextInt(46);
                if (kind < 43) {
                    call(kind);
                } else if (by.nextInt(6) == 0) {
                    text(by.nextBoolean() ? city() : spoil(city()));
                }
            }
            lookAtAll();
            due.holds("a run of " + calls + " calls at most", calls <= CALLS);
        }
        due.close("RandomTest");
    }

    private static void is(String call, long got, long want) {
        calls++;
        due.is("run " + run + ", " + call, got, want);
    }

    /** Mostly from low to high, at times a little or much beyond. */
    private static int n(int low, int high) {
        int which = by.nextInt(40);
        if (wild && which < 8) {
            return which < 4 ? by.nextInt() : low - 1 - by.nextInt(3);
        }
        if (which == 0) {
            return EDGES[by.nextInt(EDGES.length)];
        }
        if (which == 1) {
            return by.nextBoolean() ? low - 1 : high + 1;
        }
        return low + by.nextInt(high - low + 1);
    }

    private static int corner() {
        int corners = m.rule(0);
        return n(0, corners - 1);
    }

    private static int walker() {
        int walkers = m.rule(2);
        return n(0, Math.max(0, walkers - 1));
    }

    private static int word() {
        return by.nextInt(3) == 0 ? 0 : by.nextInt(4) == 0 ? n(1, 34) : n(10, 14);
    }

    private static String blanks(int least) {
        return " ".repeat(least + (by.nextInt(12) == 0 ? by.nextInt(3) : 0));
    }

    private static String city() {
        StringBuilder s = new StringBuilder(blanks(0));
        int corners = by.nextInt(7) + 2;
        if (by.nextInt(5) > 0) {
            s.append("city").append(blanks(0)).append(corners).append(';');
        } else {
            corners = 4;
        }
        int dense = by.nextInt(4) + 1;
        for (int w = by.nextInt(4); w >= 0; w--) {
            s.append(by.nextBoolean() ? "walker" : "keeper").append(by.nextInt(corners));
            s.append(by.nextBoolean() ? "left " : "right ");
            for (int i = by.nextInt(by.nextInt(3) == 0 ? 10 : 4); i >= 0; i--) {
                s.append("lr".charAt(by.nextInt(2)));
            }
            s.append(blanks(0)).append(';').append(blanks(0));
        }
        for (int i = 0; i < corners; i++) {
            if (by.nextInt(5) < dense) {
                s.append("left").append(i).append(blanks(1)).append(by.nextInt(corners)).append(';');
            }
            if (by.nextInt(5) < dense) {
                s.append("right").append(i).append(blanks(1)).append(by.nextInt(corners)).append(';');
            }
            if (by.nextInt(6) == 0 && s.length() < 140) {
                s.append("sign").append(blanks(0)).append(i).append(';');
            }
        }
        if (s.length() < 140 && by.nextBoolean()) {
            s.append("hour").append(by.nextInt(24)).append(';');
        }
        if (s.length() < 140 && by.nextBoolean()) {
            s.append("gloves").append(by.nextInt(10)).append(' ').append(by.nextInt(10)).append(' ');
            s.append(by.nextInt(10)).append(' ').append(by.nextInt(10)).append(';');
        }
        int end = s.length() <= 160 ? s.length() : s.lastIndexOf(";", 158) + 1;
        return s.substring(0, end);
    }

    private static String spoil(String text) {
        String[] parts = {"city 4;", "left", "right 0 1;", "sign 3;", "hour 24;", "hour 5;", "walker 0 left l;",
            "keeper 7 right rrrrrrrrrrr;", "gloves 1 2 3 4;", ";", " ", "9", "8", "123", "00", "A", ".", "\t", "l",
            "rl", "{", "`", ":", "/", "hou", "sign 0;sign 0;", "walker 1 up l;", "gloves 1 2 3 10;"};
        StringBuilder s = new StringBuilder(text);
        for (int i = by.nextInt(3); i >= 0; i--) {
            int at = by.nextInt(s.length() + 1);
            if (by.nextBoolean()) {
                s.insert(at, parts[by.nextInt(parts.length)]);
            } else {
                s.delete(at, Math.min(s.length(), at + 1 + by.nextInt(2)));
            }
        }
        return s.toString();
    }

    private static void text(String text) {
        if (calls + text.length() + LOOK + LOOK > CALLS) {
            return;
        }
        for (int i = 0; i < text.length(); i++) {
            int c = text.charAt(i);
            is("feed(" + c + ")", x.feed(c), m.feed(c));
        }
        is("text() of " + text, x.text(), m.text());
        is("fault()", x.fault(), m.fault());
        if (calls + LOOK + LOOK <= CALLS) {
            lookAtAll();
        }
    }

    private static void lookAtAll() {
        for (int what = 0; what < 6; what++) {
            is("rule(" + what + ")", x.rule(what), m.rule(what));
        }
        for (int what = 0; what < 7; what++) {
            is("count(" + what + ")", x.count(what), m.count(what));
        }
        for (int c = 0; c < m.rule(0); c++) {
            is("corner(" + c + ", 0)", x.corner(c, 0), m.corner(c, 0));
            is("corner(" + c + ", 1)", x.corner(c, 1), m.corner(c, 1));
        }
        for (int w = 0; w < m.rule(2); w++) {
            for (int what = 0; what < 4; what++) {
                is("walker(" + w + ", " + what + ")", x.walker(w, what), m.walker(w, what));
            }
            for (int i = by.nextInt(5); i < 10; i += 4) {
                is("letter(" + w + ", " + i + ")", x.letter(w, i), m.letter(w, i));
            }
            is("fits(" + w + ", 0)", x.fits(w, 0), m.fits(w, 0));
            is("fits(" + w + ", 1)", x.fits(w, 1), m.fits(w, 1));
        }
        for (int what = 0; what < 3; what++) {
            is("gloves(" + what + ")", x.gloves(what), m.gloves(what));
        }
        is("torn()", x.torn(), m.torn());
        is("fault()", x.fault(), m.fault());
    }

    private static void call(int kind) {
        if (kind < 18) {
            callEarly(kind);
        } else if (kind < 31) {
            callMiddle(kind);
        } else {
            callLate(kind);
        }
    }

    private static void callEarly(int kind) {
        int w = walker();
        int c = corner();
        int h = n(0, 23);
        int b = n(0, 1);
        boolean is = by.nextBoolean();
        switch (kind) {
            case 0: { int i = n(32, 127); is("feed(" + i + ")", x.feed(i), m.feed(i)); break; }
            case 1: { int i = n(0, m.count(3)); is("end(" + i + ")", x.end(i), m.end(i)); break; }
            case 2: { if (by.nextInt(20) == 0) { is("text()", x.text(), m.text()); } break; }
            case 3: { is("fault()", x.fault(), m.fault()); break; }
            case 4: { int i = n(0, 5); is("rule(" + i + ")", x.rule(i), m.rule(i)); break; }
            case 5: { is("corner(" + c + ", " + b + ")", x.corner(c, b), m.corner(c, b)); break; }
            case 6: { int i = n(0, 3); is("walker(" + w + ", " + i + ")", x.walker(w, i), m.walker(w, i)); break; }
            case 7: { int i = n(0, 9); is("letter(" + w + ", " + i + ")", x.letter(w, i), m.letter(w, i)); break; }
            case 8: { int i = n(0, 2); is("gloves(" + i + ")", x.gloves(i), m.gloves(i)); break; }
            case 9: { is("leads(" + c + ", " + b + ", " + h + ")", x.leads(c, b, h), m.leads(c, b, h)); break; }
            case 10: {
                int to = by.nextInt(5) == 0 ? -4 : corner();
                is("street(" + c + ", " + b + ", " + to + ")", x.street(c, b, to), m.street(c, b, to));
                break;
            }
            case 11: { is("sign(" + c + ", " + is + ")", x.sign(c, is), m.sign(c, is)); break; }
            case 12: { is("clock(" + h + ")", x.clock(h), m.clock(h)); break; }
            case 13: { is("put(" + w + ", " + c + ")", x.put(w, c), m.put(w, c)); break; }
            case 14: { is("keeps(" + w + ", " + is + ")", x.keeps(w, is), m.keeps(w, is)); break; }
            case 15: { is("adds(" + w + ", " + b + ")", x.adds(w, b), m.adds(w, b)); break; }
            case 16: { is("again(" + w + ")", x.again(w), m.again(w)); break; }
            default: { int k = n(0, 3); int i = n(0, 9); is("buy(" + k + ", " + i + ")", x.buy(k, i), m.buy(k, i)); }
        }
    }

    private static void callMiddle(int kind) {
        int w = walker();
        int v = walker();
        int a = corner();
        int c = corner();
        int h = n(0, 23);
        int b = n(0, 1);
        int word = word();
        switch (kind) {
            case 18: { int i = by.nextInt(3) > 0 ? n(0, 5) : n(0, 60); is("go(" + i + ")", x.go(i), m.go(i)); break; }
            case 19: {
                int i = by.nextBoolean() ? n(0, 10) : n(0, 60);
                is("ahead(" + w + ", " + i + ", " + b + ")", x.ahead(w, i, b), m.ahead(w, i, b));
                break;
            }
            case 20: { is("clash(" + w + ", " + v + ")", x.clash(w, v), m.clash(w, v)); break; }
            case 21: {
                is("way(" + a + ", " + c + ", " + h + ", " + word + ")", x.way(a, c, h, word), m.way(a, c, h, word));
                break;
            }
            case 22: {
                is("both(" + a + ", " + c + ", " + h + ", " + word + ")", x.both(a, c, h, word), m.both(a, c, h, word));
                break;
            }
            case 23: {
                int i = by.nextBoolean() ? n(0, 24) : n(0, 5);
                is("reach(" + a + ", " + h + ", " + i + ")", x.reach(a, h, i), m.reach(a, h, i));
                break;
            }
            case 24: { is("when(" + a + ", " + c + ", " + b + ")", x.when(a, c, b), m.when(a, c, b)); break; }
            case 25: {
                if (by.nextInt(30) == 0) {
                    int i = by.nextBoolean() ? n(1, 24) : n(1, 4);
                    is("signs(" + a + ", " + c + ", " + i + ")", x.signs(a, c, i), m.signs(a, c, i));
                }
                break;
            }
            case 26: { is("meet(" + w + ", " + v + ", " + b + ")", x.meet(w, v, b), m.meet(w, v, b)); break; }
            case 27: { is("shake(" + w + ", " + v + ")", x.shake(w, v), m.shake(w, v)); break; }
            case 28: { is("pairs(" + h + ")", x.pairs(h), m.pairs(h)); break; }
            case 29: {
                int l = n(0, 9);
                int r = n(0, 9);
                is("needs(" + l + ", " + r + ", " + b + ")", x.needs(l, r, b), m.needs(l, r, b));
                break;
            }
            default: {
                int i = n(0, 10);
                is("luck(" + w + ", " + i + ", " + c + ", " + b + ")", x.luck(w, i, c, b), m.luck(w, i, c, b));
            }
        }
    }

    private static void callLate(int kind) {
        int w = walker();
        int c = corner();
        int b = n(0, 1);
        int k = n(0, 3);
        int lane = n(0, 2);
        boolean is = by.nextInt(3) > 0;
        switch (kind) {
            case 31: {
                int i = n(0, 10);
                is("see(" + w + ", " + i + ", " + c + ", " + is + ")", x.see(w, i, c, is), m.see(w, i, c, is));
                break;
            }
            case 32: { int i = n(0, m.count(1)); is("forget(" + i + ")", x.forget(i), m.forget(i)); break; }
            case 33: { is("fits(" + w + ", " + b + ")", x.fits(w, b), m.fits(w, b)); break; }
            case 34: {
                int seed = by.nextInt();
                int i = n(1, 60);
                is("drift(" + seed + ", " + i + ", " + b + ")", x.drift(seed, i, b), m.drift(seed, i, b));
                break;
            }
            case 35: { is("keep(" + b + ")", x.keep(b), m.keep(b)); break; }
            case 36: { back(b); break; }
            case 37: {
                int i = by.nextBoolean() ? n(0, 40) : n(0, 8);
                is("sheet(" + k + ", " + lane + ", " + i + ")", x.sheet(k, lane, i), m.sheet(k, lane, i));
                break;
            }
            case 38: { is("torn()", x.torn(), m.torn()); break; }
            case 39: { int i = n(0, 6); is("count(" + i + ")", x.count(i), m.count(i)); break; }
            case 40: { int f = n(0, 4); int i = n(0, 4); readAll(k, lane, f, i); break; }
            case 41: { fill(k, lane); break; }
            default: {
                int i = n(0, 10);
                int v = by.nextBoolean() ? by.nextInt(5) << by.nextInt(20) : n(0, 3);
                is("lay(" + k + ", " + i + ", " + v + ")", x.lay(k, i, v), m.lay(k, i, v));
            }
        }
    }

    private static void back(int k) {
        is("back(" + k + ")", x.back(k), m.back(k));
        if (by.nextBoolean() && calls + LOOK + LOOK <= CALLS) {
            lookAtAll();
        }
    }

    /** A sheet of which most is whole, then read. */
    private static void fill(int k, int lane) {
        int n = by.nextInt(12);
        is("sheet(" + k + ", " + lane + ", " + n + ")", x.sheet(k, lane, n), m.sheet(k, lane, n));
        for (int i = 0; i < n; i++) {
            int v = by.nextInt(30) == 0 ? n(0, 5) : i % 2 == 0 ? walker() : corner();
            v += by.nextInt(20) == 0 ? 256 : 0;
            is("lay(" + k + ", " + i + ", " + v + ")", x.lay(k, i, v), m.lay(k, i, v));
        }
        readAll(k, by.nextInt(8) == 0 ? n(0, 2) : lane, by.nextInt(8) == 0 ? n(0, 3) : 0, n(0, 6));
    }

    private static void readAll(int k, int lane, int f, int n) {
        String call = "read(" + k + ", " + lane + ", " + f + ", " + n + ")";
        is(call, x.read(k, lane, f, n), m.read(k, lane, f, n));
        is("torn() behind " + call, x.torn(), m.torn());
        for (int w = 0; w < 4; w++) {
            is("walker(" + w + ", 0) behind " + call, x.walker(w, 0), m.walker(w, 0));
        }
    }
}
