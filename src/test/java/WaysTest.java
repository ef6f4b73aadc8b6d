/** Promises 23 to 27: ways. */
public final class WaysTest {
    private static final Due due = new Due();
    /** From 0 to 3 by ll, by lr and, one letter longer, by rlr. */
    private static final String TOWN = "city 6;left 0 1;right 0 2;left 1 3;right 1 3;left 2 4;right 4 3;right 3 0;";

    public static void main(String[] args) {
        way();
        wayOverNoon();
        both();
        longestWord();
        reach();
        when();
        signs();
        wrongNumbers();
        due.close("WaysTest");
    }

    private static String word(NoonCity x, boolean both, int a, int b, int hour) {
        StringBuilder s = new StringBuilder();
        int n = both ? x.both(a, b, hour, 0) : x.way(a, b, hour, 0);
        for (int i = 0; i < n; i++) {
            s.append("lr".charAt(both ? x.both(a, b, hour, 10 + i) : x.way(a, b, hour, 10 + i)));
        }
        int behind = 10 + Math.max(n, 0);
        due.is("no letter behind the last one", both ? x.both(a, b, hour, behind) : x.way(a, b, hour, behind),
            n == 24 ? -1 : -4);
        return n < 0 ? "none" : s.toString();
    }

    private static void isWord(String what, String got, String want) {
        due.holds(what + ": '" + got + "', due is '" + want + "'", got.equals(want));
    }

    private static void way() {
        NoonCity x = Towns.of(TOWN);
        isWord("0 to 3", word(x, false, 0, 3, 0), "ll");
        isWord("0 to 3", word(x, false, 0, 3, 12), "rl");
        isWord("0 to 4", word(x, false, 0, 4, 0), "rl");
        isWord("0 to 4", word(x, false, 0, 4, 12), "lr");
        isWord("to itself", word(x, false, 5, 5, 7), "");
        isWord("none", word(x, false, 0, 5, 7), "none");
        isWord("none", word(x, false, 5, 0, 7), "none");
        isWord("3 to 4", word(x, false, 3, 4, 1), "rrl");
        due.is("letter 23", x.way(3, 4, 1, 33), -4);
        x.clock(13);
        isWord("the hour asked, not the HOUR", word(x, false, 0, 4, 0), "rl");
        due.is("nothing is changed", x.rule(1), 13);
        NoonCity y = Towns.of("left 0 1;right 0 1;");
        isWord("l ahead of r", word(y, false, 0, 1, 0), "l");
        NoonCity z = Towns.of("left 0 1;right 0 2;left 1 1;right 1 0;left 2 3;");
        isWord("not by l first", word(z, false, 0, 3, 0), "rl");
        NoonCity v = Towns.of("left 0 0;right 0 2;left 2 3;");
        isWord("a first letter that leads nowhere", word(v, false, 0, 3, 0), "rl");
    }

    private static void wayOverNoon() {
        NoonCity x = Towns.of(TOWN);
        isWord("3 to 4 begun at 10", word(x, false, 3, 4, 10), "rrr");
        isWord("3 to 4 begun at 11", word(x, false, 3, 4, 11), "rlr");
        isWord("3 to 4 begun at 23", word(x, false, 3, 4, 23), "lrl");
        x.sign(2, true);
        isWord("by a SIGN", word(x, false, 3, 4, 11), "rll");
        NoonCity y = Towns.of("city 8;left 0 1;left 1 2;left 2 3;left 3 4;left 4 5;left 5 6;left 6 7;");
        isWord("the longest", word(y, false, 0, 7, 8), "llllrrr");
    }

    private static void both() {
        NoonCity x = Towns.of("city 4;left 0 1;right 0 2;left 1 3;right 2 3;left 3 3;right 3 3;");
        isWord("by ll before noon, by way of 2 behind it", word(x, true, 0, 3, 0), "ll");
        isWord("begun at 12", word(x, true, 0, 3, 12), "ll");
        isWord("to itself", word(x, true, 0, 0, 0), "");
        isWord("to either alone", word(x, true, 0, 1, 0), "none");
        x.sign(0, true);
        x.street(1, 1, 3);
        isWord("a SIGN at the first one", word(x, true, 0, 3, 0), "ll");
        x.street(1, 1, -4);
        isWord("no street behind noon", word(x, true, 0, 3, 0), "none");
        isWord("no street before noon", word(x, true, 0, 3, 12), "none");
        NoonCity y = Towns.of("left 0 1;right 0 1;left 1 2;right 1 0;sign 1;");
        isWord("over noon", word(y, true, 0, 2, 11), "ll");
        NoonCity z = Towns.of("left 0 1;right 0 0;left 1 1;right 1 2;sign 1;left 2 2;right 2 2;");
        isWord("one waits for the other", word(z, true, 0, 2, 0), "lrr");
        isWord("one waits for the other over noon", word(z, true, 0, 2, 11), "llr");
        NoonCity v = Towns.of("city 2;left 0 1;right 0 0;left 1 0;right 1 1;");
        isWord("one waits, then the other", word(v, true, 0, 1, 5), "lr");
        isWord("none needed", word(v, true, 1, 1, 5), "");
    }

    private static void longestWord() {
        NoonCity x = Towns.of("city 6;left 0 4;right 0 1;left 1 2;left 2 4;right 2 1;sign 2;left 3 0;right 3 2;"
            + "left 4 3;right 4 1;sign 4;left 5 0;right 5 0;");
        String word = word(x, true, 0, 3, 4);
        due.is("as long as a WAY may be", word.length(), 24);
        int[] at = {0, 0};
        for (int i = 0; i < word.length(); i++) {
            int side = word.charAt(i) == 'r' ? 1 : 0;
            at[0] = x.leads(at[0], side, (4 + i) % 24);
            at[1] = x.leads(at[1], side, (16 + i) % 24);
        }
        due.is("it leads there", at[0], 3);
        due.is("it leads there from the 12th hour behind", at[1], 3);
        due.is("a letter more is too many", x.both(5, 3, 3, 0), -4);
        due.is("of which there is none", x.both(5, 3, 3, 10), -4);
    }

    private static void reach() {
        NoonCity x = Towns.of(TOWN);
        int[] bits = {0b000001, 0b000111, 0b011111, 0b011111};
        for (int n = 0; n < bits.length; n++) {
            due.is("reach(0, 0, " + n + ")", x.reach(0, 0, n), bits[n]);
            due.is("reach(0, 11, " + n + ")", x.reach(0, 11, n), bits[n]);
        }
        due.is("reach(5, 0, 24)", x.reach(5, 0, 24), 32);
        due.is("reach(3, 23, 2)", x.reach(3, 23, 2), 0b001111);
    }

    private static void when() {
        NoonCity x = Towns.of(TOWN);
        due.is("when(0, 4, 0)", x.when(0, 4, 0), 0);
        due.is("when(0, 4, 1)", x.when(0, 4, 1), 2);
        due.is("when(3, 4, 1)", x.when(3, 4, 1), 3);
        due.is("when(2, 2, 0)", x.when(2, 2, 0), 0);
        due.is("when(2, 2, 1)", x.when(2, 2, 1), 0);
        due.is("when(0, 5, 0)", x.when(0, 5, 0), -4);
        due.is("when(0, 5, 1)", x.when(0, 5, 1), -4);
        x.clock(12);
        due.is("when(0, 4, 0) at noon", x.when(0, 4, 0), 0);
    }

    private static void signs() {
        NoonCity x = Towns.of(TOWN);
        due.is("signs(3, 4, 1)", x.signs(3, 4, 1), -4);
        due.is("signs(3, 4, 2)", x.signs(3, 4, 2), -4);
        due.is("signs(3, 4, 3)", x.signs(3, 4, 3), 0);
        due.is("signs(3, 4, 24)", x.signs(3, 4, 24), 0);
        due.is("signs(0, 5, 24)", x.signs(0, 5, 24), -4);
        due.is("signs(5, 5, 1)", x.signs(5, 5, 1), 0);
        due.is("signs(0, 1, 0)", x.signs(0, 1, 0), -1);
        due.is("signs(0, 1, 25)", x.signs(0, 1, 25), -1);
        due.is("signs(6, 1, 1)", x.signs(6, 1, 1), -1);
        due.is("signs(-1, 1, 1)", x.signs(-1, 1, 1), -1);
        due.is("signs(0, 6, 1)", x.signs(0, 6, 1), -1);
        due.is("signs(0, -1, 1)", x.signs(0, -1, 1), -1);
        due.is("nothing is changed", x.rule(3), 0);
    }

    private static void wrongNumbers() {
        NoonCity x = Towns.of(TOWN);
        int[][] wrong = {{6, 0, 0, 0}, {-1, 0, 0, 0}, {0, 6, 0, 0}, {0, -1, 0, 0}, {0, 1, 24, 0}, {0, 1, -1, 0},
            {0, 1, 0, 1}, {0, 1, 0, -1}, {0, 1, 0, 9}, {0, 1, 0, 34}};
        for (int[] w : wrong) {
            due.is("way", x.way(w[0], w[1], w[2], w[3]), -1);
            due.is("both", x.both(w[0], w[1], w[2], w[3]), -1);
        }
        due.is("none, and no such letter", x.way(0, 5, 0, 9), -1);
        due.is("none", x.way(0, 5, 0, 33), -4);
        int[][] far = {{6, 0, 0}, {-1, 0, 0}, {0, 24, 0}, {0, -1, 0}, {0, 0, 25}, {0, 0, -1}};
        for (int[] w : far) {
            due.is("reach", x.reach(w[0], w[1], w[2]), -1);
        }
        int[][] late = {{6, 0, 0}, {-1, 0, 0}, {0, 6, 0}, {0, -1, 0}, {0, 1, 2}, {0, 1, -1}};
        for (int[] w : late) {
            due.is("when", x.when(w[0], w[1], w[2]), -1);
        }
    }
}
