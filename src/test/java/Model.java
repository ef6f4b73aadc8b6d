import java.math.BigInteger;
import java.util.ArrayList;
import java.util.Arrays;
import java.util.List;
import java.util.TreeMap;
import java.util.TreeSet;
import java.util.regex.Matcher;
import java.util.regex.Pattern;

/**
 * The document once more, by other means than NoonCity's: by trying all there is, by deep copies, by
 * regular expressions, by what the machine itself throws. RandomTest lays the two side by side.
 */
final class Model {
    private static final int BAD = -1, STATE = -2, FULL = -3, NONE = -4;

    private static final class Person implements Cloneable {
        int corner;
        int hand;
        boolean keeps;
        String route = "";
        String left = "";

        Person copy() {
            try {
                return (Person) clone();
            } catch (CloneNotSupportedException e) {
                throw new IllegalStateException(e);
            }
        }
    }

    private record Sight(int w, int n, int c, boolean is) {
    }

    private static final class World {
        int corners = 4;
        Integer[][] street = new Integer[8][2];
        TreeSet<Integer> signs = new TreeSet<>();
        int hour = 0;
        int clashes = 0;
        List<Person> people = new ArrayList<>();
        int[] gloves = new int[4];
        List<Sight> seen = new ArrayList<>();

        World copy() {
            World that = new World();
            that.corners = corners;
            for (int c = 0; c < 8; c++) {
                that.street[c] = street[c].clone();
            }
            that.signs = new TreeSet<>(signs);
            that.hour = hour;
            that.clashes = clashes;
            for (Person p : people) {
                that.people.add(p.copy());
            }
            that.gloves = gloves.clone();
            that.seen = new ArrayList<>(seen);
            return that;
        }

        boolean turned(int h) {
            return h % 24 > 11;
        }

        /** null: there is no street. */
        Integer by(int c, char letter, int h, boolean keeps) {
            if (!turned(h) || keeps || signs.contains(c)) {
                return street[c][letter == 'l' ? 0 : 1];
            }
            return street[c][letter == 'l' ? 1 : 0];
        }

        /** All at once by a letter each (s: he stays). */
        int all(String letters) {
            int[] from = new int[people.size()];
            int[] to = new int[people.size()];
            for (int w = 0; w < from.length; w++) {
                Person p = people.get(w);
                from[w] = p.corner;
                char letter = letters.charAt(w);
                Integer there = letter == 's' ? null : by(p.corner, letter, hour, p.keeps);
                to[w] = there == null ? p.corner : there;
                p.corner = to[w];
            }
            int met = 0;
            for (int w = 0; w < from.length; w++) {
                for (int v = w + 1; v < from.length; v++) {
                    if (from[w] != to[w] && from[v] != to[v] && from[w] == to[v] && from[v] == to[w]) {
                        met++;
                    }
                }
            }
            clashes += met;
            hour++;
            return met;
        }

        int oneHour() {
            StringBuilder letters = new StringBuilder();
            for (Person p : people) {
                letters.append(p.left.isEmpty() ? 's' : p.left.charAt(0));
                p.left = p.left.isEmpty() ? "" : p.left.substring(1);
            }
            return all(letters.toString());
        }

        int hand(int w, int h) {
            Person p = people.get(w);
            return turned(h) && !p.keeps ? 1 - p.hand : p.hand;
        }

        int places() {
            int bits = 0;
            for (Person p : people) {
                bits |= 1 << p.corner;
            }
            return bits;
        }
    }

    private static final class Torn extends Exception {
        private static final long serialVersionUID = 1L;
        final int what;
        final int where;

        Torn(int what, int where) {
            this.what = what;
            this.where = where;
        }
    }

    private World now = new World();
    private final World[] image = new World[2];
    private final Object[] sheet = new Object[4];
    private String tape = "";
    private int fault = 0;
    private int torn = 0;

    private boolean noCorner(int c) {
        return c < 0 || c >= now.corners;
    }

    private boolean noWalker(int w) {
        return w < 0 || w >= now.people.size();
    }

    private static boolean out(int n, int low, int high) {
        return n < low || n > high;
    }

    int feed(int c) {
        if (out(c, 0, 127)) {
            return BAD;
        }
        if (tape.length() == 160) {
            return FULL;
        }
        tape += (char) c;
        return tape.length();
    }

    int end(int n) {
        if (out(n, 0, tape.length())) {
            return BAD;
        }
        int had = tape.length();
        tape = tape.substring(0, n);
        return had;
    }

    // ---- the text: tokens by a regular expression, each taken before the next is read

    private int at;
    private int start;
    private String token;

    private void next() throws Torn {
        Matcher m = Pattern.compile(" *([a-z]+|[0-9]+|;|\\z)").matcher(tape);
        m.region(at, tape.length());
        if (!m.lookingAt()) {
            int i = at;
            while (tape.charAt(i) == ' ') {
                i++;
            }
            throw new Torn(1, i);
        }
        start = m.start(1);
        token = m.group(1);
        at = m.end();
        if (token.matches("[0-9]{3,}")) {
            throw new Torn(1, start);
        }
    }

    private int number(int low, int high) throws Torn {
        next();
        if (!token.matches("[0-9]+")) {
            throw new Torn(2, start);
        }
        int n = Integer.parseInt(token);
        if (out(n, low, high)) {
            throw new Torn(3, start);
        }
        return n;
    }

    private String word(String form) throws Torn {
        next();
        if (!token.matches(form)) {
            throw new Torn(2, start);
        }
        return token;
    }

    private int tellAll(World w) throws Torn {
        at = 0;
        int lines = 0;
        int highest = 0;
        TreeSet<String> told = new TreeSet<>();
        for (next(); !token.isEmpty(); next()) {
            String line = token;
            if (!line.matches("city|left|right|sign|hour|walker|keeper|gloves")) {
                throw new Torn(2, start);
            }
            if (line.matches("city|hour|gloves") && !told.add(line)) {
                throw new Torn(4, start);
            }
            if (line.matches("walker|keeper") && w.people.size() == 4) {
                throw new Torn(5, start);
            }
            if (line.equals("city")) {
                w.corners = number(2, 8);
            } else if (line.equals("hour")) {
                w.hour = number(0, 23);
            } else if (line.equals("gloves")) {
                for (int i = 0; i < 4; i++) {
                    w.gloves[i] = number(0, 9);
                }
            } else {
                int c = number(0, 7);
                highest = Math.max(highest, c);
                if (line.matches("left|right|sign") && !told.add(line + c)) {
                    throw new Torn(4, start);
                }
                if (line.equals("sign")) {
                    w.signs.add(c);
                } else if (line.matches("left|right")) {
                    int to = number(0, 7);
                    highest = Math.max(highest, to);
                    w.street[c][line.equals("left") ? 0 : 1] = to;
                } else {
                    Person p = new Person();
                    p.corner = c;
                    p.hand = word("left|right").equals("left") ? 0 : 1;
                    p.keeps = line.equals("keeper");
                    p.route = word("[a-z]+");
                    if (!p.route.matches("[lr]{1,10}")) {
                        throw new Torn(3, start);
                    }
                    p.left = p.route;
                    w.people.add(p);
                }
            }
            word(";");
            lines++;
        }
        if (highest >= w.corners) {
            throw new Torn(6, tape.length());
        }
        return lines;
    }

    int text() {
        World told = new World();
        fault = 0;
        try {
            int lines = tellAll(told);
            now = told;
            Arrays.fill(image, null);
            return lines;
        } catch (Torn f) {
            fault = f.what;
            return -10 - f.where;
        } finally {
            tape = "";
        }
    }

    int fault() {
        return fault;
    }

    int rule(int what) {
        if (out(what, 0, 5)) {
            return BAD;
        }
        int signs = 0;
        for (int c : now.signs) {
            signs += 1 << c;
        }
        return new int[] {now.corners, now.hour, now.people.size(), signs, now.clashes,
            now.turned(now.hour) ? 1 : 0}[what];
    }

    int corner(int c, int what) {
        if (noCorner(c) || out(what, 0, 1)) {
            return BAD;
        }
        return now.street[c][what] == null ? NONE : now.street[c][what];
    }

    int walker(int w, int what) {
        if (noWalker(w) || out(what, 0, 3)) {
            return BAD;
        }
        Person p = now.people.get(w);
        return new int[] {p.corner, now.hand(w, now.hour), p.keeps ? 1 : 0, p.left.length()}[what];
    }

    int letter(int w, int i) {
        if (noWalker(w) || out(i, 0, now.people.get(w).route.length() - 1)) {
            return BAD;
        }
        return now.people.get(w).route.charAt(i) == 'l' ? 0 : 1;
    }

    int gloves(int what) {
        if (out(what, 0, 2)) {
            return BAD;
        }
        int[] g = now.gloves;
        boolean t = now.turned(now.hour);
        return new int[] {(t ? g[1] : g[0]) + g[2], (t ? g[0] : g[1]) + g[3],
            g[0] + g[1] + g[2] + g[3]}[what];
    }

    int leads(int c, int side, int hour) {
        if (noCorner(c) || out(side, 0, 1) || out(hour, 0, 23)) {
            return BAD;
        }
        Integer to = now.by(c, "lr".charAt(side), hour, false);
        return to == null ? NONE : to;
    }

    int street(int c, int side, int to) {
        if (noCorner(c) || out(side, 0, 1) || to != NONE && noCorner(to)) {
            return BAD;
        }
        Integer was = now.street[c][side];
        now.street[c][side] = to == NONE ? null : Integer.valueOf(to);
        return was == null ? NONE : was;
    }

    int sign(int c, boolean is) {
        if (noCorner(c)) {
            return BAD;
        }
        return (is ? !now.signs.add(c) : now.signs.remove(c)) ? 1 : 0;
    }

    int clock(int h) {
        if (out(h, 0, 23)) {
            return BAD;
        }
        int was = now.hour % 24;
        now.hour = h;
        return was;
    }

    int put(int w, int c) {
        if (noWalker(w) || noCorner(c)) {
            return BAD;
        }
        int was = now.people.get(w).corner;
        now.people.get(w).corner = c;
        return was;
    }

    int keeps(int w, boolean is) {
        if (noWalker(w)) {
            return BAD;
        }
        int was = now.people.get(w).keeps ? 1 : 0;
        now.people.get(w).keeps = is;
        return was;
    }

    int adds(int w, int letter) {
        if (noWalker(w) || out(letter, 0, 1)) {
            return BAD;
        }
        Person p = now.people.get(w);
        if (p.route.length() == 10) {
            return FULL;
        }
        p.route += "lr".charAt(letter);
        p.left += "lr".charAt(letter);
        return p.route.length();
    }

    int again(int w) {
        if (noWalker(w)) {
            return BAD;
        }
        Person p = now.people.get(w);
        int gone = p.route.length() - p.left.length();
        p.left = p.route;
        return gone;
    }

    int buy(int kind, int n) {
        if (out(kind, 0, 3) || out(n, 0, 9)) {
            return BAD;
        }
        int were = now.gloves[kind];
        now.gloves[kind] = n;
        return were;
    }

    int go(int n) {
        if (out(n, 0, 60)) {
            return BAD;
        }
        if (now.hour + n >= 1000) {
            return FULL;
        }
        int before = now.clashes;
        for (int i = 0; i < n; i++) {
            now.oneHour();
        }
        return now.clashes - before;
    }

    int ahead(int w, int n, int what) {
        if (noWalker(w) || out(n, 0, 60) || out(what, 0, 1)) {
            return BAD;
        }
        World then = now.copy();
        for (int i = 0; i < n; i++) {
            then.oneHour();
        }
        Person p = then.people.get(w);
        return what == 0 ? p.corner : p.left.length();
    }

    int clash(int w, int v) {
        if (noWalker(w) || noWalker(v) || w == v) {
            return BAD;
        }
        World then = now.copy();
        then.people = new ArrayList<>(List.of(now.people.get(w).copy(), now.people.get(v).copy()));
        for (int i = 1; i <= 10; i++) {
            if (then.oneHour() > 0) {
                return i;
            }
        }
        return NONE;
    }

    /** The first of the shortest words, null: there is none. */
    private String first(World in, int a, int b, int... hours) {
        TreeMap<String, List<Integer>> level = new TreeMap<>();
        level.put("", java.util.Collections.nCopies(hours.length, a));
        List<Integer> goal = java.util.Collections.nCopies(hours.length, b);
        for (int n = 0; n <= 24; n++) {
            TreeMap<String, List<Integer>> more = new TreeMap<>();
            List<List<Integer>> had = new ArrayList<>();
            for (var e : level.entrySet()) {
                if (e.getValue().equals(goal)) {
                    return e.getKey();
                }
                for (char letter : new char[] {'l', 'r'}) {
                    List<Integer> to = new ArrayList<>();
                    for (int i = 0; i < hours.length; i++) {
                        to.add(in.by(e.getValue().get(i), letter, hours[i] + n, false));
                    }
                    if (!to.contains(null) && !had.contains(to)) {
                        had.add(to);
                        more.put(e.getKey() + letter, to);
                    }
                }
            }
            level = more;
        }
        return null;
    }

    private int ask(String word, int what) {
        if (word == null || what != 0 && what - 10 >= word.length()) {
            return NONE;
        }
        return what == 0 ? word.length() : word.charAt(what - 10) == 'l' ? 0 : 1;
    }

    int way(int a, int b, int hour, int what) {
        if (noCorner(a) || noCorner(b) || out(hour, 0, 23) || what != 0 && out(what, 10, 33)) {
            return BAD;
        }
        return ask(first(now, a, b, hour), what);
    }

    int both(int a, int b, int hour, int what) {
        if (noCorner(a) || noCorner(b) || out(hour, 0, 23) || what != 0 && out(what, 10, 33)) {
            return BAD;
        }
        return ask(first(now, a, b, hour, (hour + 12) % 24), what);
    }

    int reach(int a, int hour, int n) {
        if (noCorner(a) || out(hour, 0, 23) || out(n, 0, 24)) {
            return BAD;
        }
        int bits = 0;
        for (int b = 0; b < now.corners; b++) {
            String word = first(now, a, b, hour);
            bits |= word != null && word.length() <= n ? 1 << b : 0;
        }
        return bits;
    }

    int when(int a, int b, int what) {
        if (noCorner(a) || noCorner(b) || out(what, 0, 1)) {
            return BAD;
        }
        int best = 25;
        int hour = NONE;
        for (int h = 0; h < 24; h++) {
            String word = first(now, a, b, h);
            if (word != null && word.length() < best) {
                best = word.length();
                hour = h;
            }
        }
        return hour == NONE ? NONE : what == 0 ? hour : best;
    }

    private boolean inTime(World in, int a, int b, int n) {
        for (int h = 0; h < 24; h++) {
            String word = first(in, a, b, h);
            if (word == null || word.length() > n) {
                return false;
            }
        }
        return true;
    }

    int signs(int a, int b, int n) {
        if (noCorner(a) || noCorner(b) || out(n, 1, 24)) {
            return BAD;
        }
        for (int many = 0; many <= now.corners; many++) {
            for (int bits = 0; bits < 1 << now.corners; bits++) {
                World then = now.copy();
                boolean more = Integer.bitCount(bits) == many;
                for (int c = 0; c < now.corners; c++) {
                    more &= (bits >> c & 1) == 0 || then.signs.add(c);
                }
                if (more && inTime(then, a, b, n)) {
                    return bits;
                }
            }
        }
        return NONE;
    }

    int meet(int w, int v, int what) {
        if (noWalker(w) || noWalker(v) || w == v || out(what, 0, 1)) {
            return BAD;
        }
        List<TreeSet<Integer>> can = List.of(new TreeSet<>(), new TreeSet<>());
        can.get(0).add(now.people.get(w).corner);
        can.get(1).add(now.people.get(v).corner);
        for (int n = 0; n <= 24; n++) {
            for (int c : can.get(0)) {
                if (can.get(1).contains(c)) {
                    return what == 0 ? n : c;
                }
            }
            for (int i = 0; i < 2; i++) {
                boolean keeps = now.people.get(i == 0 ? w : v).keeps;
                for (int c : new ArrayList<>(can.get(i))) {
                    for (char letter : new char[] {'l', 'r'}) {
                        Integer to = now.by(c, letter, now.hour + n, keeps);
                        if (to != null) {
                            can.get(i).add(to);
                        }
                    }
                }
            }
        }
        return NONE;
    }

    int shake(int w, int v) {
        if (noWalker(w) || noWalker(v) || w == v) {
            return BAD;
        }
        for (int h = 0; h < 24; h++) {
            if (now.hand(w, h) == now.hand(v, h)) {
                return h;
            }
        }
        return NONE;
    }

    int pairs(int hour) {
        if (out(hour, 0, 23)) {
            return BAD;
        }
        return pairsOf((1 << now.people.size()) - 1, hour);
    }

    private int pairsOf(int who, int hour) {
        int most = 0;
        for (int w = 0; w < 4; w++) {
            for (int v = w + 1; v < 4; v++) {
                int two = 1 << w | 1 << v;
                if ((who & two) == two && now.hand(w, hour) == now.hand(v, hour)) {
                    most = Math.max(most, 1 + pairsOf(who & ~two, hour));
                }
            }
        }
        return most;
    }

    int needs(int l, int r, int what) {
        if (out(l, 0, 9) || out(r, 0, 9) || out(what, 0, 1)) {
            return BAD;
        }
        int fewest = 99;
        int least = 0;
        for (int n = 0; n < 10000; n++) {
            int[] g = {now.gloves[0] + n / 1000, now.gloves[1] + n / 100 % 10,
                now.gloves[2] + n / 10 % 10, now.gloves[3] + n % 10};
            int more = n / 1000 + n / 100 % 10 + n / 10 % 10 + n % 10;
            boolean before = g[0] + g[2] >= l && g[1] + g[3] >= r;
            boolean behind = g[1] + g[2] >= l && g[0] + g[3] >= r;
            if (before && behind && more < fewest) {
                fewest = more;
                least = n;
            }
        }
        return what == 0 ? fewest : least;
    }

    long luck(int w, int v, int c, int what) {
        if (noWalker(w) || out(v, 0, 10) || noCorner(c) || out(what, 0, 1)) {
            return BAD;
        }
        Person p = now.people.get(w);
        int letters = p.left.length();
        BigInteger sum = BigInteger.ZERO;
        for (int wrong = 0; wrong < 1 << letters; wrong++) {
            int at = p.corner;
            BigInteger weight = BigInteger.ONE;
            for (int i = 0; i < letters; i++) {
                boolean badly = (wrong >> i & 1) == 1;
                char letter = (p.left.charAt(i) == 'l') != badly ? 'l' : 'r';
                Integer to = now.by(at, letter, now.hour + i, p.keeps);
                at = to == null ? at : to;
                weight = weight.multiply(BigInteger.valueOf(badly ? v : 10 - v));
            }
            sum = at == c ? sum.add(weight) : sum;
        }
        BigInteger whole = BigInteger.TEN.pow(letters);
        BigInteger share = sum.gcd(whole);
        return (what == 0 ? sum : whole).divide(share).longValueExact();
    }

    int see(int w, int n, int c, boolean is) {
        if (noWalker(w) || out(n, 0, 10) || noCorner(c)) {
            return BAD;
        }
        if (now.seen.size() == 8) {
            return FULL;
        }
        now.seen.add(new Sight(w, n, c, is));
        return now.seen.size();
    }

    int forget(int n) {
        if (out(n, 0, now.seen.size())) {
            return BAD;
        }
        int were = now.seen.size();
        now.seen = new ArrayList<>(now.seen.subList(0, n));
        return were;
    }

    int fits(int w, int what) {
        if (noWalker(w) || out(what, 0, 1)) {
            return BAD;
        }
        int bits = 0;
        for (int c = 0; c < now.corners; c++) {
            boolean fit = true;
            for (Sight s : now.seen) {
                World then = now.copy();
                then.people.get(w).corner = c;
                then.people.get(w).keeps = what == 1;
                for (int i = 0; i < s.n(); i++) {
                    then.oneHour();
                }
                fit &= s.w() != w || (then.people.get(w).corner == s.c()) == s.is();
            }
            bits |= fit ? 1 << c : 0;
        }
        return bits;
    }

    int drift(int seed, int n, int what) {
        if (out(n, 1, 60) || out(what, 0, 1)) {
            return BAD;
        }
        World then = now.copy();
        BigInteger word = BigInteger.ONE.shiftLeft(32);
        BigInteger s = BigInteger.valueOf(seed).mod(word);
        int met = 0;
        for (int i = 0; i < n; i++) {
            StringBuilder letters = new StringBuilder();
            for (int w = 0; w < then.people.size(); w++) {
                s = s.multiply(BigInteger.valueOf(1103515245)).add(BigInteger.valueOf(12345)).mod(word);
                int bits = s.shiftRight(16).mod(BigInteger.valueOf(32768)).intValue();
                letters.append("lrs".charAt(bits % 3));
            }
            met += then.all(letters.toString());
        }
        return what == 0 ? met : then.places();
    }

    int keep(int k) {
        if (out(k, 0, 1)) {
            return BAD;
        }
        int was = image[k] == null ? 0 : 1;
        image[k] = now.copy();
        return was;
    }

    int back(int k) {
        if (out(k, 0, 1)) {
            return BAD;
        }
        if (image[k] == null) {
            return STATE;
        }
        now = image[k].copy();
        return now.hour;
    }

    int sheet(int k, int lane, int n) {
        if (out(k, 0, 3) || out(lane, 0, 2) || n > 40) {
            return BAD;
        }
        try {
            sheet[k] = lane == 0 ? new byte[n] : lane == 1 ? new short[n] : (Object) new int[n];
            return 1;
        } catch (NegativeArraySizeException e) {
            return -14;
        }
    }

    int lay(int k, int i, int v) {
        if (out(k, 0, 3)) {
            return BAD;
        }
        try {
            if (sheet[k] instanceof byte[] row) {
                row[i] = (byte) v;
            } else if (sheet[k] instanceof short[] row) {
                row[i] = (short) v;
            } else {
                ((int[]) sheet[k])[i] = v;
            }
            return 1;
        } catch (NullPointerException e) {
            return -11;
        } catch (ArrayIndexOutOfBoundsException e) {
            return -12;
        }
    }

    private int cell(int k, int lane, int i) {
        switch (lane) {
            case 0: return ((byte[]) sheet[k])[i];
            case 1: return ((short[]) sheet[k])[i];
            default: return ((int[]) sheet[k])[i];
        }
    }

    int read(int k, int lane, int f, int n) {
        if (out(k, 0, 3) || out(lane, 0, 2) || out(n, 0, 20)) {
            return BAD;
        }
        World was = now.copy();
        int come = 0;
        int found = 0;
        try {
            for (; come < n; come++) {
                int w = cell(k, lane, f + 2 * come);
                int c = cell(k, lane, f + 2 * come + 1);
                if (put(w, c) == BAD) {
                    now = was;
                    return -20 - come;
                }
            }
        } catch (NullPointerException e) {
            found = 1;
        } catch (ArrayIndexOutOfBoundsException e) {
            found = 2;
        } catch (ClassCastException e) {
            found = 3;
        }
        torn = found;
        return come;
    }

    int torn() {
        return torn;
    }

    int count(int what) {
        switch (what) {
            case 0: return (int) Arrays.stream(now.street).flatMap(Arrays::stream)
                .filter(to -> to != null).count();
            case 1: return now.seen.size();
            case 2: return (image[0] == null ? 0 : 1) + (image[1] == null ? 0 : 1);
            case 3: return tape.length();
            case 4: return sheet[0] == null ? NONE : java.lang.reflect.Array.getLength(sheet[0]);
            case 5: return now.people.stream().mapToInt(p -> p.left.length()).sum();
            case 6: return (int) now.people.stream().map(p -> p.corner).distinct().count();
            default: return BAD;
        }
    }
}
