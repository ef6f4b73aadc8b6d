import java.util.ArrayList;
import java.util.List;
import java.util.TreeSet;
import java.util.function.IntPredicate;

/**
 * A call of the face with numbers that are taken, and for each of its numbers the bounds that the document
 * tells. A boolean is a number, too: 0 is false, all else is true.
 */
final class Call {
    /** What is done with an object. */
    interface Body {
        long of(NoonCity x, int[] n);
    }

    /** A number of a call: from low to high, or one of some few more, but not one that it may not be. */
    record Bounds(int low, int high, IntPredicate more, IntPredicate less) {
        boolean takes(int n) {
            return (n >= low && n <= high || more.test(n)) && !less.test(n);
        }

        Bounds also(IntPredicate which) {
            return new Bounds(low, high, which, less);
        }

        Bounds not(int n) {
            return new Bounds(low, high, more, i -> i == n);
        }

        /** Numbers about the bounds, and ints that would be within them if they were cut or wrapped around. */
        TreeSet<Integer> tried() {
            TreeSet<Integer> all = new TreeSet<>();
            for (int i = -6; i <= 6; i++) {
                all.add(low + i);
                all.add(high + i);
            }
            for (int i = Math.max(low, -1); i <= Math.min(high, 200); i++) {
                all.add(i);
            }
            int[] ends = {low, high, low + (high - low) / 2};
            for (int end : ends) {
                for (int bit = 3; bit < 32; bit++) {
                    all.add(end + (1 << bit));
                    all.add(end - (1 << bit));
                }
                all.add(-end);
                all.add(~end);
            }
            all.add(Integer.MIN_VALUE);
            all.add(Integer.MAX_VALUE);
            return all;
        }

        /** The first that are not taken, below and above, and the furthest. */
        TreeSet<Integer> beyond() {
            TreeSet<Integer> all = new TreeSet<>(List.of(low - 1, high + 1, Integer.MIN_VALUE, Integer.MAX_VALUE));
            all.removeIf(this::takes);
            return all;
        }
    }

    static Bounds from(int low, int high) {
        return new Bounds(low, high, i -> false, i -> false);
    }

    static Bounds any() {
        return from(Integer.MIN_VALUE, Integer.MAX_VALUE);
    }

    final String name;
    final boolean asks;
    private final Body body;
    final Bounds[] bounds;
    final int[] good;

    private Call(String name, boolean asks, Body body, int[] good, Bounds... bounds) {
        this.name = name;
        this.asks = asks;
        this.body = body;
        this.good = good;
        this.bounds = bounds;
        if (good.length != bounds.length) {
            throw new IllegalArgumentException(name);
        }
    }

    long of(NoonCity x, int... n) {
        return body.of(x, n);
    }

    String told(int... n) {
        StringBuilder s = new StringBuilder(name).append('(');
        for (int i = 0; i < n.length; i++) {
            s.append(i == 0 ? "" : ", ").append(n[i]);
        }
        return s.append(')').toString();
    }

    /** The good numbers, but one in the place of another. */
    int[] with(int at, int n) {
        int[] all = good.clone();
        all[at] = n;
        return all;
    }

    private static int[] n(int... n) {
        return n;
    }

    private static Call asks(String name, Body body, int[] good, Bounds... bounds) {
        return new Call(name, true, body, good, bounds);
    }

    private static Call does(String name, Body body, int[] good, Bounds... bounds) {
        return new Call(name, false, body, good, bounds);
    }

    /** All calls that take numbers, as Scene.of(corners) takes them. */
    static List<Call> all(int corners) {
        List<Call> all = new ArrayList<>();
        addTold(all, from(0, corners - 1));
        addChanges(all, from(0, corners - 1));
        addWays(all, from(0, corners - 1));
        addOdds(all, from(0, corners - 1));
        addSheets(all);
        return all;
    }

    private static void addTold(List<Call> all, Bounds c) {
        Bounds w = from(0, Scene.WALKERS - 1);
        Bounds side = from(0, 1);
        all.add(does("feed", (x, n) -> x.feed(n[0]), n(32), from(0, 127)));
        all.add(does("end", (x, n) -> x.end(n[0]), n(1), from(0, Scene.TAPE.length())));
        all.add(asks("rule", (x, n) -> x.rule(n[0]), n(0), from(0, 5)));
        all.add(asks("corner", (x, n) -> x.corner(n[0], n[1]), n(1, 0), c, side));
        all.add(asks("walker", (x, n) -> x.walker(n[0], n[1]), n(0, 0), w, from(0, 3)));
        all.add(asks("letter", (x, n) -> x.letter(n[0], n[1]), n(0, 0), w, from(0, 2)));
        all.add(asks("gloves", (x, n) -> x.gloves(n[0]), n(0), from(0, 2)));
        all.add(asks("leads", (x, n) -> x.leads(n[0], n[1], n[2]), n(0, 0, 12), c, side, from(0, 23)));
    }

    private static void addChanges(List<Call> all, Bounds c) {
        Bounds w = from(0, Scene.WALKERS - 1);
        Bounds side = from(0, 1);
        all.add(does("street", (x, n) -> x.street(n[0], n[1], n[2]), n(1, 1, 1), c, side, c.also(to -> to == -4)));
        all.add(does("sign", (x, n) -> x.sign(n[0], n[1] != 0), n(0, 0), c, any()));
        all.add(does("clock", (x, n) -> x.clock(n[0]), n(13), from(0, 23)));
        all.add(does("put", (x, n) -> x.put(n[0], n[1]), n(0, 1), w, c));
        all.add(does("keeps", (x, n) -> x.keeps(n[0], n[1] != 0), n(0, 1), w, any()));
        all.add(does("adds", (x, n) -> x.adds(n[0], n[1]), n(0, 1), w, side));
        all.add(does("again", (x, n) -> x.again(n[0]), n(0), w));
        all.add(does("buy", (x, n) -> x.buy(n[0], n[1]), n(0, 5), from(0, 3), from(0, 9)));
        all.add(does("go", (x, n) -> x.go(n[0]), n(1), from(0, 60)));
        all.add(asks("ahead", (x, n) -> x.ahead(n[0], n[1], n[2]), n(0, 1, 0), w, from(0, 60), from(0, 1)));
        all.add(asks("clash", (x, n) -> x.clash(n[0], n[1]), n(0, 1), w.not(1), w.not(0)));
    }

    private static void addWays(List<Call> all, Bounds c) {
        Bounds w = from(0, Scene.WALKERS - 1);
        Bounds hour = from(0, 23);
        Bounds word = from(10, 33).also(what -> what == 0);
        Bounds which = from(0, 1);
        all.add(asks("way", (x, n) -> x.way(n[0], n[1], n[2], n[3]), n(0, 1, 11, 0), c, c, hour, word));
        all.add(asks("both", (x, n) -> x.both(n[0], n[1], n[2], n[3]), n(0, 0, 11, 0), c, c, hour, word));
        all.add(asks("reach", (x, n) -> x.reach(n[0], n[1], n[2]), n(0, 11, 3), c, hour, from(0, 24)));
        all.add(asks("when", (x, n) -> x.when(n[0], n[1], n[2]), n(0, 1, 1), c, c, which));
        all.add(asks("signs", (x, n) -> x.signs(n[0], n[1], n[2]), n(0, 1, 2), c, c, from(1, 24)));
        all.add(asks("meet", (x, n) -> x.meet(n[0], n[1], n[2]), n(0, 1, 0), w.not(1), w.not(0), which));
        all.add(asks("shake", (x, n) -> x.shake(n[0], n[1]), n(0, 1), w.not(1), w.not(0)));
        all.add(asks("pairs", (x, n) -> x.pairs(n[0]), n(11), hour));
        all.add(asks("needs", (x, n) -> x.needs(n[0], n[1], n[2]), n(4, 5, 1), from(0, 9), from(0, 9), which));
    }

    private static void addOdds(List<Call> all, Bounds c) {
        Bounds w = from(0, Scene.WALKERS - 1);
        Bounds which = from(0, 1);
        all.add(asks("luck", (x, n) -> x.luck(n[0], n[1], n[2], n[3]), n(0, 3, 1, 1), w, from(0, 10), c, which));
        all.add(does("see", (x, n) -> x.see(n[0], n[1], n[2], n[3] != 0), n(0, 2, 1, 1), w, from(0, 10), c, any()));
        all.add(does("forget", (x, n) -> x.forget(n[0]), n(1), from(0, Scene.SEEN)));
        all.add(asks("fits", (x, n) -> x.fits(n[0], n[1]), n(0, 0), w, which));
        all.add(asks("drift", (x, n) -> x.drift(n[0], n[1], n[2]), n(7, 9, 1), any(), from(1, 60), which));
    }

    private static void addSheets(List<Call> all) {
        Bounds k = from(0, 3);
        Bounds lane = from(0, 2);
        all.add(does("keep", (x, n) -> x.keep(n[0]), n(0), from(0, 1)));
        all.add(does("back", (x, n) -> x.back(n[0]), n(0), from(0, 1)));
        // A size below 0 is refused, too, but not as BAD: see RefusedTest.
        all.add(does("sheet", (x, n) -> x.sheet(n[0], n[1], n[2]), n(0, 0, 4), k, lane, from(Integer.MIN_VALUE, 40)));
        all.add(does("lay", (x, n) -> x.lay(n[0], n[1], n[2]), n(0, 0, 1), k, any(), any()));
        all.add(does("read", (x, n) -> x.read(n[0], n[1], n[2], n[3]), n(0, 0, 0, 1), k, lane, any(), from(0, 20)));
        all.add(asks("count", (x, n) -> x.count(n[0]), n(0), from(0, 6)));
    }
}
