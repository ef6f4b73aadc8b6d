import java.util.ArrayList;
import java.util.List;

/** THE TAPE: every TOKEN of every line, as it should be, and with each FAULT that it can have, at its place. */
public final class LinesTest {
    private static final Due due = new Due();

    /** What stands in a line; a NUMBER goes from low to high. */
    private enum Kind { LINE, NUMBER, HAND, ROUTE, STOP }

    private record Part(Kind kind, String good, int low, int high) {
        boolean isWord() {
            return kind == Kind.LINE || kind == Kind.HAND || kind == Kind.ROUTE;
        }
    }

    private record Line(List<Part> parts) {
        List<String> good() {
            return new ArrayList<>(parts.stream().map(Part::good).toList());
        }

        List<String> with(int at, String token) {
            List<String> all = good();
            all.set(at, token);
            return all;
        }
    }

    /** A text of tokens, with the place of one of them. */
    private record Text(String all, int place) {
    }

    private static final String[] NO_TOKENS = {"\0", "\t", "\n", "!", "/", ":", "<", "?", "@", "A", "Z", "[", "`", "{",
        ".", ",", "-1", "+1", "\177", "000", "100", "12345"};

    public static void main(String[] args) {
        for (Line line : lines()) {
            goodOnes(line);
            for (int at = 0; at < line.parts().size(); at++) {
                ends(line, at);
                noTokens(line, at);
                otherKinds(line, at);
                bounds(line, at);
            }
            beginsNone(line.good().get(0));
        }
        routes();
        secondTimes();
        secondCorners();
        walkers();
        cornersThatAreNot();
        firstFault();
        lengths();
        due.close("LinesTest");
    }

    private static Part word(String word) {
        return new Part(Kind.LINE, word, 0, 0);
    }

    private static Part number(int good, int low, int high) {
        return new Part(Kind.NUMBER, "" + good, low, high);
    }

    private static Part stop() {
        return new Part(Kind.STOP, ";", 0, 0);
    }

    private static List<Line> lines() {
        Part corner = number(3, 0, 7);
        Part glove = number(5, 0, 9);
        Part left = new Part(Kind.HAND, "left", 0, 0);
        Part right = new Part(Kind.HAND, "right", 0, 0);
        Part route = new Part(Kind.ROUTE, "lrr", 0, 0);
        return List.of(
            new Line(List.of(word("city"), number(8, 2, 8), stop())),
            new Line(List.of(word("left"), corner, number(2, 0, 7), stop())),
            new Line(List.of(word("right"), corner, number(2, 0, 7), stop())),
            new Line(List.of(word("sign"), corner, stop())),
            new Line(List.of(word("hour"), number(17, 0, 23), stop())),
            new Line(List.of(word("walker"), corner, left, route, stop())),
            new Line(List.of(word("keeper"), corner, right, route, stop())),
            new Line(List.of(word("gloves"), glove, glove, glove, glove, stop())));
    }

    private static boolean isLetter(String token, int i) {
        return token.charAt(i) >= 'a' && token.charAt(i) <= 'z';
    }

    private static boolean isFigure(String token, int i) {
        return token.charAt(i) >= '0' && token.charAt(i) <= '9';
    }

    /** Blanks where they are needed, and more of them ahead of each token. */
    private static Text join(String ahead, List<String> tokens, int at, int blanks) {
        StringBuilder s = new StringBuilder(ahead);
        int place = -1;
        String before = "";
        for (int i = 0; i < tokens.size(); i++) {
            String token = tokens.get(i);
            boolean touch = !before.isEmpty() && !token.isEmpty()
                && (isLetter(before, before.length() - 1) && isLetter(token, 0)
                || isFigure(before, before.length() - 1) && isFigure(token, 0));
            s.append(" ".repeat(Math.max(blanks, touch ? 1 : 0)));
            place = i == at ? s.length() : place;
            s.append(token);
            before = token;
        }
        return new Text(s.toString(), place);
    }

    private static int answers(NoonCity x, String text) {
        int lines = Towns.tell(x, text);
        due.is("THE TAPE behind text() of '" + text + "'", x.count(3), 0);
        return lines;
    }

    private static void fails(String text, int fault, int place) {
        NoonCity x = new NoonCity();
        due.is("text() of '" + text + "'", answers(x, text), -10 - place);
        due.is("fault() of '" + text + "'", x.fault(), fault);
    }

    private static NoonCity holds(String text, int lines) {
        NoonCity x = new NoonCity();
        due.is("text() of '" + text + "'", answers(x, text), lines);
        due.is("fault() of '" + text + "'", x.fault(), 0);
        return x;
    }

    private static boolean isCity(Line line) {
        return line.good().get(0).equals("city");
    }

    /** So that each CORNER from 0 to 7 is there. */
    private static String eight(Line line) {
        return isCity(line) ? "" : "city 8;";
    }

    private static void goodOnes(Line line) {
        for (int blanks = 0; blanks < 4; blanks++) {
            String text = join(eight(line), line.good(), 0, blanks).all();
            int lines = isCity(line) ? 1 : 2;
            holds(text, lines);
            holds(text + " ", lines);
            holds("  " + text + "   ", lines);
        }
    }

    private static void ends(Line line, int at) {
        if (at == 0) {
            return;
        }
        for (int blanks = 0; blanks < 3; blanks++) {
            String text = join(eight(line), line.good().subList(0, at), 0, blanks).all();
            fails(text, 2, text.length());
            fails(text + "  ", 2, text.length() + 2);
        }
    }

    private static void failsAt(Line line, int at, String token, int fault) {
        for (int blanks = 0; blanks < 3; blanks++) {
            Text text = join(eight(line), line.with(at, token), at, blanks);
            fails(text.all(), fault, text.place());
            // The first FAULT counts: what stands behind it is not read.
            fails(text.all().substring(0, text.place()) + token + " ? 100 z", fault, text.place());
        }
    }

    private static void noTokens(Line line, int at) {
        for (String token : NO_TOKENS) {
            failsAt(line, at, token, 1);
        }
    }

    private static void otherKinds(Line line, int at) {
        Part part = line.parts().get(at);
        if (part.kind() != Kind.NUMBER) {
            failsAt(line, at, "7", 2);
            failsAt(line, at, "42", 2);
        }
        if (part.kind() != Kind.STOP) {
            failsAt(line, at, ";", 2);
        }
        if (!part.isWord()) {
            failsAt(line, at, "l", 2);
            failsAt(line, at, "left", 2);
            failsAt(line, at, "city", 2);
        }
        if (part.kind() == Kind.LINE) {
            failsAt(line, at, "l", 2);
            failsAt(line, at, "abcdefghijklmnopqrstuvwxyz", 2);
        }
        if (part.kind() == Kind.HAND) {
            String[] none = {"l", "r", "lef", "eft", "leftt", "lefu", "meft", "righ", "ight", "rightt", "leftright",
                "city", "walker", "llll", "rrrrr"};
            for (String word : none) {
                failsAt(line, at, word, 2);
            }
        }
    }

    private static void bounds(Line line, int at) {
        Part part = line.parts().get(at);
        if (part.kind() != Kind.NUMBER) {
            return;
        }
        for (int n = 0; n < 100; n++) {
            if (n < part.low() || n > part.high()) {
                failsAt(line, at, "" + n, 3);
            } else if (!isCity(line)) {
                holds(join("city 8;", line.with(at, "" + n), at, 1).all(), 2);
                holds(join("city 8;", line.with(at, n < 10 ? "0" + n : "" + n), at, 0).all(), 2);
            } else {
                holds("city " + n + ";", 1);
                due.is("CORNERS", holds("city 0" + n + ";", 1).rule(0), n);
            }
        }
    }

    /** A word that is nearly that of a line. */
    private static void beginsNone(String word) {
        fails(word.substring(1), 2, 0);
        fails(word.substring(0, word.length() - 1), 2, 0);
        fails(word + "s 1;", 2, 0);
        fails("a" + word + " 1;", 2, 0);
        fails(word + word, 2, 0);
        for (int i = 0; i < word.length(); i++) {
            String other = word.charAt(i) == 'z' ? "y" : "" + (char) (word.charAt(i) + 1);
            fails(word.substring(0, i) + other + word.substring(i + 1), 2, 0);
        }
    }

    private static void routes() {
        for (int n = 1; n <= 20; n++) {
            String route = "lrrlrllrlr".repeat(2).substring(0, n);
            if (n <= 10) {
                NoonCity x = holds("keeper 0 left " + route + ";", 1);
                due.is("letters of " + route, x.walker(0, 3), n);
                for (int i = 0; i < n; i++) {
                    due.is("letter " + i + " of " + route, x.letter(0, i), route.charAt(i) == 'r' ? 1 : 0);
                    fails("keeper 0 left " + route.substring(0, i) + "k" + route.substring(i + 1) + ";", 3, 14);
                    fails("keeper 0 left " + route.substring(0, i) + "m" + route.substring(i + 1) + ";", 3, 14);
                    fails("keeper 0 left " + route.substring(0, i) + "q" + route.substring(i + 1) + ";", 3, 14);
                    fails("keeper 0 left " + route.substring(0, i) + "s" + route.substring(i + 1) + ";", 3, 14);
                }
            } else {
                fails("keeper 0 left " + route + ";", 3, 14);
                fails("keeper 0 left " + route, 3, 14);
            }
        }
    }

    private static void secondTimes() {
        String[] once = {"city", "hour", "gloves"};
        String[] good = {"city 8;", "hour 4;", "gloves 1 2 3 4;"};
        String between = "left 0 1;sign 1;walker 1 left l;";
        for (int i = 0; i < once.length; i++) {
            fails(good[i] + good[i], 4, good[i].length());
            fails(good[i] + "  " + once[i], 4, good[i].length() + 2);
            fails(good[i] + between + once[i] + " ?", 4, good[i].length() + between.length());
            fails(good[i] + once[i] + " 99 99;", 4, good[i].length());
            String two = good[i] + good[(i + 1) % 3];
            fails(two + good[i], 4, two.length());
            fails(two + good[(i + 1) % 3], 4, two.length());
            holds(good[0] + good[1] + good[2], 3);
        }
    }

    /** All CORNERS told by a line, then one of them again; another line may tell it. */
    private static void secondCorners() {
        String[] words = {"left", "right", "sign"};
        for (String word : words) {
            StringBuilder s = new StringBuilder("city8;");
            String rest = word.equals("sign") ? ";" : " 0;";
            for (int c = 0; c < 8; c++) {
                s.append(word).append(c).append(rest);
            }
            holds(s.toString(), 9);
            for (int c = 0; c < 8; c++) {
                String text = s + word + " " + c;
                fails(text, 4, text.length() - 1);
                fails(text + rest, 4, text.length() - 1);
                fails(s + word + "0" + c + " ?", 4, text.length() - 2);
            }
            fails(s + word + " 8;", 3, s.length() + word.length() + 1);
            for (String other : words) {
                if (!other.equals(word)) {
                    holds(s + other + "7" + (other.equals("sign") ? ";" : " 0;"), 10);
                }
            }
        }
    }

    private static void walkers() {
        String[] words = {"walker", "keeper"};
        for (int bits = 0; bits < 16; bits++) {
            StringBuilder s = new StringBuilder();
            for (int w = 0; w < 4; w++) {
                s.append(words[bits >> w & 1]).append(w).append("right lr;");
                NoonCity x = holds(s.toString(), w + 1);
                due.is("WALKERS", x.rule(2), w + 1);
                due.is("the CORNER of the latest", x.walker(w, 0), w);
                due.is("whether he KEEPS his side", x.walker(w, 2), bits >> w & 1);
            }
            for (String word : words) {
                fails(s + word, 5, s.length());
                fails(s + "  " + word + " 0 left l;", 5, s.length() + 2);
                fails(s + "sign 2;" + word + " 9 ?", 5, s.length() + 7);
            }
        }
    }

    /** With so many CORNERS, told ahead or behind or not at all, each line that tells of one. */
    private static void cornersThatAreNot() {
        String[] lines = {"left N 0;", "left 0 N;", "right N 0;", "right 0 N;", "sign N;", "walker N left l;",
            "keeper N right r;"};
        String[] others = {"", "left 1 1;", "sign 1;", "walker 0 left l;", "right 1 0;", "keeper 1 left l;"};
        for (int corners = 2; corners <= 8; corners++) {
            String city = "city " + corners + ";";
            for (String line : lines) {
                for (String other : others) {
                    for (int c = 0; c < 8; c++) {
                        String one = line.replace("N", "" + c);
                        if (!tellsLike(one, other)) {
                            cornerOf(corners, city, one, other, c < corners);
                        }
                    }
                }
            }
        }
    }

    /** The same CORNER of left, right or sign, for the second time. */
    private static boolean tellsLike(String one, String other) {
        String[] words = {"left 1", "right 1", "sign 1"};
        for (String word : words) {
            if (one.startsWith(word) && other.startsWith(word)) {
                return true;
            }
        }
        return false;
    }

    private static void cornerOf(int corners, String city, String one, String other, boolean is) {
        int lines = other.isEmpty() ? 2 : 3;
        there(city + one + other, lines, is);
        there(one + other + city, lines, is);
        there(other + city + one + "  ", lines, is);
        if (corners == 4) {
            there(other + one, lines - 1, is);
            there(one + other, lines - 1, is);
        }
    }

    private static void there(String text, int lines, boolean is) {
        if (is) {
            holds(text, lines);
        } else {
            fails(text, 6, text.length());
        }
    }

    /** A CORNER that there is not is met behind all: any other FAULT is first. */
    private static void firstFault() {
        String not = "city 2;sign 7;";
        fails(not + "?", 1, 14);
        fails(not + "123", 1, 14);
        fails(not + "hour", 2, 18);
        fails(not + "sign 8;", 3, 19);
        fails(not + "sign 7;", 4, 19);
        fails(not + "city 8;", 4, 14);
        fails(not, 6, 14);
        fails("left 0 1;left 0 9;", 4, 14);
        fails("left 0 1;left 9 9;", 3, 14);
        fails("left 3 8;left 3 0;", 3, 7);
        fails("sign 2;sign 2?", 4, 12);
        fails("sign 2;sign 22;", 3, 12);
        fails("sign 2;sign 222;", 1, 12);
        fails("gloves 1 2 3 11", 3, 13);
        fails("gloves 1 2 3 111", 1, 13);
        fails("walker 0 left lrlrlrlrlrx;", 3, 14);
        fails("walker 0 left l?", 1, 15);
        fails("walker 0 left?", 1, 13);
        fails("walker 0 lef?", 2, 9);
        fails("cit?", 2, 0);
        fails("city?", 1, 4);
        fails("city 99?", 3, 5);
        fails("city 9 9", 3, 5);
        fails("city 8 9", 2, 7);
        fails("city8;;", 2, 6);
    }

    /** Places of a tape that is full. */
    private static void lengths() {
        String blanks = " ".repeat(153);
        holds("hour 7;" + blanks, 1);
        holds(blanks + "hour 7;", 1);
        holds(" ".repeat(160), 0);
        holds("hour 7;" + "sign0;sign1;sign2;sign3;" + " ".repeat(129), 5);
        fails(blanks + "hour 77", 3, 158);
        fails(blanks + "  hour7", 2, 160);
        fails(blanks + "hour 7?", 1, 159);
        fails(blanks + "sign 7;", 6, 160);
        fails("sign 7;" + blanks, 6, 160);
        fails("hour 7 " + blanks, 2, 160);
        fails(" ".repeat(159) + ";", 2, 159);
        fails(" ".repeat(158) + "77", 2, 158);
        fails(" ".repeat(157) + "777", 1, 157);
        fails("z".repeat(160), 2, 0);
        fails("7".repeat(160), 1, 0);
        fails("hour " + "0".repeat(155), 1, 5);
        fails("walker 0 left " + "l".repeat(146), 3, 14);
        fails("city 8;" + "sign 7;".repeat(21), 4, 19);
        fails(";".repeat(160), 2, 0);
    }
}
