/** Edges of "Terms": every HOUR, every number of CORNERS, every length, what wraps around. */
public final class EdgesTest {
    private static final Due due = new Due();
    /** From 0 on to 7 by one street each, in turn to the left and to the right. */
    private static final String CHAIN = "city 8;left 0 1;right 1 2;left 2 3;right 3 4;left 4 5;right 5 6;left 6 7;";
    private static final String RING = CHAIN + "right 7 0;";

    public static void main(String[] args) {
        for (int from = 0; from < 1000; from += 20) {
            hours(from);
        }
        lastHour();
        for (int corners = 2; corners <= 8; corners++) {
            cities(corners);
        }
        signBits();
        clashes();
        chain();
        chainMeets();
        seenHours();
        seenImages();
        seenHoursInImages();
        images();
        luckAll();
        luckShares();
        drifts();
        walkersFull();
        due.close("EdgesTest");
    }

    private static void toHour(NoonCity x, int hour) {
        for (int i = 0; i < hour / 60; i++) {
            x.go(60);
        }
        x.go(hour % 60);
    }

    private static void hours(int from) {
        NoonCity x = Towns.of("left 0 1;right 0 2;left 3 1;sign 3;walker 0 left l;keeper 0 right l;walker 3 left l;"
            + "gloves 1 0 0 0;");
        toHour(x, from);
        for (int h = from; h < from + 20; h++) {
            boolean turned = h % 24 >= 12;
            String at = " in HOUR " + h;
            due.is("HOUR" + at, x.rule(1), h);
            due.is("IT IS TURNED" + at, x.rule(5), turned ? 1 : 0);
            due.is("a HAND" + at, x.walker(0, 1), turned ? 1 : 0);
            due.is("a HAND of a keeper" + at, x.walker(1, 1), 1);
            due.is("GLOVES" + at, x.gloves(0), turned ? 0 : 1);
            int[] there = {turned ? 2 : 1, 1, 1};
            for (int w = 0; w < 3; w++) {
                x.put(w, w == 2 ? 3 : 0);
                x.again(w);
                due.is("where he comes" + at, x.ahead(w, 1, 0), there[w]);
            }
            if (h < 999) {
                x.go(1);
                for (int w = 0; w < 3; w++) {
                    due.is("where he came" + at, x.walker(w, 0), there[w]);
                }
            }
        }
        int last = Math.min(from + 20, 999);
        x.keep(0);
        due.is("clock() in HOUR " + last, x.clock(0), last % 24);
        due.is("back() to HOUR " + last, x.back(0), last);
    }

    private static void lastHour() {
        NoonCity x = Towns.of("hour 23;left 0 1;right 0 2;left 1 3;right 1 0;walker 0 left llllllllll;");
        toHour(x, 960);
        due.is("HOUR", x.rule(1), 983);
        due.is("go(17) would be 1000", x.go(17), -3);
        due.is("go(60) would be more", x.go(60), -3);
        due.is("go(16) is 999", x.go(16), 0);
        x.again(0);
        x.put(0, 0);
        due.is("999 is before noon, turned", x.rule(5), 1);
        due.is("ahead() goes on behind 999", x.ahead(0, 1, 0), 2);
        due.is("go(1) would be 1000", x.go(1), -3);
        due.is("no letter is gone", x.walker(0, 3), 10);
        due.is("he is where he was", x.walker(0, 0), 0);
    }

    private static void cities(int n) {
        StringBuilder s = new StringBuilder("city" + n + ";");
        for (int c = 0; c < n; c++) {
            s.append("left").append(c).append(' ').append((c + 1) % n).append(';');
            s.append("right").append(c).append(' ').append(n - 1 - c).append(';');
        }
        NoonCity x = Towns.of(s.toString());
        for (int c = 0; c < n; c++) {
            due.is("to the left from " + c, x.corner(c, 0), (c + 1) % n);
            due.is("to the right from " + c, x.corner(c, 1), n - 1 - c);
            due.is("to the left, turned, from " + c, x.leads(c, 0, 12), n - 1 - c);
            due.is("to the right, turned, from " + c, x.leads(c, 1, 23), (c + 1) % n);
            due.is("a SIGN at " + c, x.sign(c, true), 0);
            due.is("to the left by a SIGN from " + c, x.leads(c, 0, 12), (c + 1) % n);
            due.is("street() of " + c, x.street(c, 1, -4), n - 1 - c);
            due.is("there is none", x.leads(c, 1, 12), -4);
        }
        due.is("CORNERS", x.rule(0), n);
        due.is("streets", x.count(0), n);
        due.is("SIGNS", x.rule(3), (1 << n) - 1);
        due.is("all in reach", x.reach(n - 1, 0, n - 1), (1 << n) - 1);
        due.is("all but one", x.reach(n - 1, 0, n - 2), (1 << n) - 1 - (1 << n - 2));
        due.is("corner(" + n + ", 0)", x.corner(n, 0), -1);
        due.is("street(" + n + ", 0, 0)", x.street(n, 0, 0), -1);
        due.is("street(0, 0, " + n + ")", x.street(0, 0, n), -1);
        due.is("sign(" + n + ")", x.sign(n, true), -1);
    }

    private static void signBits() {
        NoonCity x = Towns.of("city 8;");
        int bits = 0;
        int[] order = {3, 0, 7, 5, 1, 2, 6, 4};
        for (int c : order) {
            due.is("sign(" + c + ", true)", x.sign(c, true), 0);
            bits |= 1 << c;
            due.is("SIGNS", x.rule(3), bits);
            due.is("sign(" + c + ", true)", x.sign(c, true), 1);
            due.is("SIGNS", x.rule(3), bits);
        }
        for (int c : order) {
            due.is("sign(" + c + ", false)", x.sign(c, false), 1);
            bits -= 1 << c;
            due.is("SIGNS", x.rule(3), bits);
            due.is("sign(" + c + ", false)", x.sign(c, false), 0);
            due.is("SIGNS", x.rule(3), bits);
        }
    }

    /** They stay by r, as there is no street, till both go. */
    private static void clashes() {
        for (int n = 1; n <= 10; n++) {
            String route = "r".repeat(n - 1) + "l";
            NoonCity x = Towns.of("left 0 1;left 1 0;keeper 0 left " + route + ";keeper 1 left " + route + ";");
            due.is("clash() in hour " + n, x.clash(0, 1), n);
            due.is("clash() in hour " + n, x.clash(1, 0), n);
            for (int left = n; left >= 1; left--) {
                due.is("clash() with " + left + " hours left", x.clash(0, 1), left);
                due.is("go(1) with " + left + " hours left", x.go(1), left == 1 ? 1 : 0);
            }
            due.is("no letters are left", x.clash(0, 1), -4);
            due.is("CLASHES", x.rule(4), 1);
            x.again(0);
            x.again(1);
            due.is("again", x.clash(0, 1), n);
            due.is("go(" + n + ")", x.go(n), 1);
            due.is("CLASHES", x.rule(4), 2);
        }
    }

    private static String letters(int from, int hour) {
        StringBuilder s = new StringBuilder();
        for (int c = from; c < 7; c++) {
            boolean turned = (hour + c - from) % 24 >= 12;
            s.append((c % 2 == 0) != turned ? 'l' : 'r');
        }
        return s.toString();
    }

    private static void chain() {
        for (int a = 0; a < 8; a++) {
            for (int hour = 0; hour < 24; hour++) {
                NoonCity x = Towns.of(CHAIN);
                String word = letters(a, hour);
                for (int b = a; b < 8; b++) {
                    due.is("letters from " + a + " to " + b, x.way(a, b, hour, 0), b - a);
                }
                for (int i = 0; i < 8; i++) {
                    int want = i < word.length() ? word.charAt(i) == 'l' ? 0 : 1 : -4;
                    due.is("letter " + i + " from " + a + " begun at " + hour, x.way(a, 7, hour, 10 + i), want);
                }
            }
            NoonCity x = Towns.of(CHAIN);
            for (int b = 0; b < 8; b++) {
                int way = b - a;
                due.is("when(" + a + ", " + b + ", 1)", x.when(a, b, 1), way < 0 ? -4 : way);
                due.is("both(" + a + ", " + b + ", 0, 0)", x.both(a, b, 0, 0), way == 0 ? 0 : -4);
                due.is("signs(" + a + ", " + b + ", 24)", x.signs(a, b, 24), way < 0 ? -4 : 0);
                if (way > 1) {
                    due.is("signs(" + a + ", " + b + ", " + (way - 1) + ")", x.signs(a, b, way - 1), -4);
                }
                if (way > 0) {
                    due.is("signs(" + a + ", " + b + ", " + way + ")", x.signs(a, b, way), 0);
                }
            }
            for (int n = 0; n <= 24; n++) {
                int bits = (1 << Math.min(8, a + n + 1)) - (1 << a);
                due.is("reach(" + a + ", 11, " + n + ")", x.reach(a, 11, n), bits);
            }
        }
    }

    private static void chainMeets() {
        NoonCity x = Towns.of(CHAIN + "walker 0 left l;keeper 0 left l;");
        for (int a = 0; a < 8; a++) {
            for (int b = 0; b < 8; b++) {
                x.put(0, a);
                x.put(1, b);
                due.is("meet from " + a + " and " + b, x.meet(0, 1, 0), Math.abs(a - b));
                due.is("where, from " + a + " and " + b, x.meet(1, 0, 1), Math.max(a, b));
            }
        }
        x.street(3, 1, -4);
        for (int a = 0; a < 4; a++) {
            x.put(0, a);
            x.put(1, a + 4);
            due.is("never", x.meet(0, 1, 0), -4);
            due.is("nowhere", x.meet(0, 1, 1), -4);
        }
    }

    /** Around the ring by ten letters, none of which is behind noon. */
    private static void seenHours() {
        for (int letters = 1; letters <= 10; letters++) {
            for (int n = 0; n <= 10; n++) {
                NoonCity x = Towns.of(RING + "walker 0 left " + "lrlrlrlrlr".substring(0, letters) + ";");
                int gone = Math.min(n, letters);
                x.see(0, n, gone % 8, true);
                String seen = letters + " letters, SEEN behind " + n;
                // From an odd corner there is no street by the first letter, so he is a corner behind.
                int fit = gone == 0 ? 0b01 : 0b11;
                due.is(seen, x.fits(0, 0), fit);
                due.is(seen + ", a keeper", x.fits(0, 1), fit);
                x.forget(0);
                x.see(0, n, gone % 8, false);
                due.is(seen + ", not", x.fits(0, 0), 255 - fit);
                due.is("see() behind 11", x.see(0, 11, 0, true), -1);
                due.is("see() behind -1", x.see(0, -1, 0, true), -1);
            }
        }
    }

    /** Eight SEEN, the last of which counts, and is in an IMAGE, too. */
    private static void seenImages() {
        for (int last = 0; last < 8; last++) {
            NoonCity x = Towns.of("city 8;walker 0 left l;walker 0 left l;");
            for (int i = 0; i < 8; i++) {
                due.is("see()", x.see(i == last ? 1 : 0, i, i == last ? last : 7 - last, false), i + 1);
            }
            int fit = 255 - (1 << last);
            due.is("fits(1, 0)", x.fits(1, 0), fit);
            x.keep(1);
            x.forget(0);
            due.is("fits(1, 0) of none", x.fits(1, 0), 255);
            for (int i = 0; i < 8; i++) {
                x.see(0, 10 - i, i, true);
            }
            due.is("fits(0, 0) of all", x.fits(0, 0), 0);
            x.back(1);
            due.is("SEEN", x.count(1), 8);
            due.is("fits(1, 0) by an IMAGE", x.fits(1, 0), fit);
            due.is("fits(0, 1) by an IMAGE", x.fits(0, 1), 255 - (1 << 7 - last));
            due.is("FULL", x.see(0, 0, 0, true), -3);
            due.is("forget(" + last + ")", x.forget(last), 8);
            due.is("fits(1, 0) of those ahead", x.fits(1, 0), 255);
        }
    }

    /** What one of eight SEEN tells, by its hours alone, is in an IMAGE, too. */
    private static void seenHoursInImages() {
        for (int last = 0; last < 8; last++) {
            NoonCity x = Towns.of(RING + "walker 0 left lrlrl;walker 0 left l;");
            for (int i = 0; i < 8; i++) {
                x.see(i == last ? 0 : 1, i == last ? 3 : 10, i == last ? 3 : 1, true);
            }
            due.is("fits(0, 0)", x.fits(0, 0), 0b11);
            due.is("fits(1, 0)", x.fits(1, 0), 0b11);
            due.is("keep(0)", x.keep(0), 0);
            x.forget(0);
            for (int i = 0; i < 8; i++) {
                x.see(0, 5, 3, false);
            }
            due.is("back(0)", x.back(0), 0);
            due.is("fits(0, 0) by an IMAGE", x.fits(0, 0), 0b11);
            due.is("fits(1, 0) by an IMAGE", x.fits(1, 0), 0b11);
        }
    }

    private static void images() {
        for (int k = 0; k < 2; k++) {
            NoonCity x = new NoonCity();
            due.is("the first IMAGE", x.keep(k), 0);
            due.is("IMAGES", x.count(2), 1);
            due.is("there is none", x.back(1 - k), -2);
            due.is("once more", x.keep(k), 1);
            due.is("IMAGES", x.count(2), 1);
            due.is("the other one", x.keep(1 - k), 0);
            due.is("IMAGES", x.count(2), 2);
            due.is("the other one once more", x.keep(1 - k), 1);
            due.is("the first one still", x.keep(k), 1);
            due.is("back() leaves it", x.back(k), 0);
            due.is("there is one", x.keep(k), 1);
            x.text();
            due.is("gone by a text", x.keep(k), 0);
            due.is("IMAGES", x.count(2), 1);
        }
    }

    private static long commonDivisor(long a, long b) {
        return b == 0 ? a : commonDivisor(b, a % b);
    }

    /** In lowest terms, above 0 below, and 1 in all CORNERS together. */
    private static void luckAll() {
        for (int v = 0; v <= 10; v++) {
            for (int letters = 1; letters <= 10; letters++) {
                NoonCity x = Towns.of(RING + "hour 7;keeper 0 left " + "lrllrlrlrr".substring(0, letters) + ";");
                long whole = 1;
                for (int i = 0; i < letters; i++) {
                    whole *= 10;
                }
                long sum = 0;
                for (int c = 0; c < 8; c++) {
                    long top = x.luck(0, v, c, 0);
                    long bottom = x.luck(0, v, c, 1);
                    String of = "luck(0, " + v + ", " + c + ") of " + letters;
                    due.holds(of + " is a fraction", top >= 0 && bottom > 0 && top <= bottom);
                    due.is(of + " in lowest terms", commonDivisor(top, bottom), 1);
                    due.is(of + " of tenths", whole % Math.max(1, bottom), 0);
                    sum += whole / Math.max(1, bottom) * top;
                }
                due.is("all of " + letters + " letters, " + v, sum, whole);
                x.go(letters);
                due.is("no letter left", x.luck(0, v, x.walker(0, 0), 0), 1);
                due.is("no letter left", x.luck(0, v, x.walker(0, 0), 1), 1);
                due.is("0 is 0 by 1", x.luck(0, v, (x.walker(0, 0) + 1) % 8, 0), 0);
                due.is("0 is 0 by 1", x.luck(0, v, (x.walker(0, 0) + 1) % 8, 1), 1);
            }
        }
    }

    /** To the last CORNER, by one letter read well, or to the one ahead of it, by one that is misread. */
    private static void luckShares() {
        NoonCity x = Towns.of("city 8;left 0 7;right 0 6;walker 0 left l;");
        int[][] well = {{1, 1}, {9, 10}, {4, 5}, {7, 10}, {3, 5}, {1, 2}, {2, 5}, {3, 10}, {1, 5}, {1, 10}, {0, 1}};
        for (int v = 0; v <= 10; v++) {
            for (int part = 0; part < 2; part++) {
                due.is("luck(0, " + v + ", 7, " + part + ")", x.luck(0, v, 7, part), well[v][part]);
                due.is("luck(0, " + v + ", 6, " + part + ")", x.luck(0, v, 6, part), well[10 - v][part]);
                due.is("luck(0, " + v + ", 0, " + part + ")", x.luck(0, v, 0, part), part);
            }
        }
        NoonCity y = Towns.of("city 8;left 0 7;walker 0 left l;");
        due.is("there is no street, so he stays", y.luck(0, 3, 0, 0), 3);
        due.is("there is no street, so he stays", y.luck(0, 3, 0, 1), 10);
    }

    /** One WALKER on a ring, by a seed that wraps around; below by longs, as if each int were without a sign. */
    private static void drifts() {
        int[] seeds = {0, 1, -1, Integer.MAX_VALUE, Integer.MIN_VALUE, 12345, -1103515245, 1 << 16, 7 << 28};
        NoonCity x = Towns.of("city 8;left 0 1;left 1 2;left 2 3;left 3 4;left 4 5;left 5 6;left 6 7;left 7 0;"
            + "right 0 5;right 1 6;right 2 7;walker 0 right l;");
        x.keeps(0, true);
        for (int seed : seeds) {
            long s = seed & 0xFFFFFFFFL;
            int c = 0;
            for (int n = 1; n <= 60; n += n < 6 ? 1 : 9) {
                s = seed & 0xFFFFFFFFL;
                c = 0;
                for (int i = 0; i < n; i++) {
                    s = s * 1103515245L + 12345L & 0xFFFFFFFFL;
                    long way = (s / 65536 & 32767) % 3;
                    if (way == 0) {
                        c = (c + 1) % 8;
                    } else if (way == 1 && c < 3) {
                        c += 5;
                    }
                }
                due.is("drift(" + seed + ", " + n + ", 1)", x.drift(seed, n, 1), 1 << c);
                due.is("drift(" + seed + ", " + n + ", 0)", x.drift(seed, n, 0), 0);
            }
        }
        NoonCity y = Towns.of("left 0 1;right 0 1;left 1 2;right 1 2;walker 0 left l;");
        due.is("by 2 he stays", y.drift(1, 1, 1), 1);
        due.is("then to the right", y.drift(1, 2, 1), 2);
        due.is("then to the left", y.drift(1, 3, 1), 4);
    }

    /** Four WALKERS, each with all that he can have. */
    private static void walkersFull() {
        NoonCity x = Towns.of("city8;walker7left llllllllll;keeper6right rrrrrrrrrr;walker5right lrlrlrlrlr;"
            + "keeper4left rlrlrlrlrl;hour12;");
        int[][] want = {{7, 1, 0, 10}, {6, 1, 1, 10}, {5, 0, 0, 10}, {4, 0, 1, 10}};
        for (int w = 0; w < 4; w++) {
            for (int i = 0; i < 4; i++) {
                due.is("walker(" + w + ", " + i + ")", x.walker(w, i), want[w][i]);
            }
            due.is("letter(" + w + ", 9)", x.letter(w, 9), w == 1 || w == 2 ? 1 : 0);
            due.is("letter(" + w + ", 10)", x.letter(w, 10), -1);
            due.is("adds(" + w + ", 0)", x.adds(w, 0), -3);
        }
        due.is("walker(4, 0)", x.walker(4, 0), -1);
        due.is("letters left", x.count(5), 40);
        due.is("CORNERS with WALKERS", x.count(6), 4);
        due.is("go(9)", x.go(9), 0);
        due.is("letters left", x.count(5), 4);
        due.is("go(60)", x.go(60), 0);
        due.is("letters left", x.count(5), 0);
        due.is("again(3)", x.again(3), 10);
    }
}
