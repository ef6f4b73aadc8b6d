import java.util.ArrayList;
import java.util.List;

/** A city with something of all there is, and all that can be seen of an object. */
final class Scene {
    static final int WALKERS = 3;
    static final int SEEN = 4;
    static final String TAPE = "hour 7;";
    private static final String LINES = "left 0 1;right 0 0;left 1 0;sign 1;hour 9;walker 0 left lrl;keeper 1 right rl;"
        + "walker 1 left ll;gloves 1 2 3 4;";

    private Scene() {
    }

    /** Of 2 corners or more, in some 190 calls. */
    static NoonCity of(int corners) {
        NoonCity x = Towns.of("city " + corners + ";" + LINES);
        x.see(0, 2, 1, true);
        x.see(2, 0, 0, false);
        x.keep(1);
        x.go(1);
        x.street(1, 0, 1);
        x.sign(0, true);
        x.buy(3, 9);
        x.put(1, 0);
        x.see(0, 1, 0, false);
        x.see(1, 3, 1, false);
        x.keep(0);
        x.go(2);
        x.again(2);
        x.keeps(2, true);
        for (int k = 0; k < 4; k++) {
            x.sheet(k, k % 3, 5 - k);
            x.lay(k, 0, k % WALKERS);
            x.lay(k, 1, 1);
        }
        x.read(1, 1, 2, 9);
        Towns.feed(x, TAPE);
        return x;
    }

    private static void add(List<String> all, String call, long answer) {
        all.add(call + " = " + answer);
    }

    /**
     * All that can be seen of an object of a few corners, in some 240 calls: it is not as it was then, as
     * sheets, images and the tape are seen by what they change.
     */
    static List<String> look(NoonCity x) {
        List<String> all = new ArrayList<>();
        lookAtCity(x, all);
        for (int k = 0; k < 4; k++) {
            lookAtSheet(x, k, all);
        }
        for (int k = 0; k < 2; k++) {
            add(all, "back " + k, x.back(k));
            lookAtCity(x, all);
        }
        add(all, "text", x.text());
        add(all, "fault", x.fault());
        add(all, "hour by it", x.rule(1));
        return all;
    }

    private static void lookAtSheet(NoonCity x, int k, List<String> all) {
        for (int w = 0; w < WALKERS; w++) {
            x.put(w, 0);
        }
        for (int lane = 0; lane < 3; lane++) {
            String as = " of sheet " + k + " as of " + lane;
            int first = x.read(k, lane, 0, 1);
            add(all, "the first pair" + as, first);
            add(all, "torn by it", x.torn());
            if (first != 0) {
                lookAtPlaces(x, as, all);
                add(all, "the other pairs" + as, x.read(k, lane, 2, 9));
                add(all, "torn by them", x.torn());
                lookAtPlaces(x, as, all);
            }
        }
    }

    private static void lookAtPlaces(NoonCity x, String as, List<String> all) {
        for (int w = 0; w < WALKERS; w++) {
            add(all, "walker " + w + " by those" + as, x.walker(w, 0));
        }
    }

    private static void lookAtCity(NoonCity x, List<String> all) {
        for (int i = 0; i < 6; i++) {
            add(all, "rule " + i, x.rule(i));
        }
        for (int i = 0; i < 7; i++) {
            add(all, "count " + i, x.count(i));
        }
        add(all, "torn", x.torn());
        add(all, "fault", x.fault());
        for (int c = 0; c < 2; c++) {
            add(all, "left of " + c, x.corner(c, 0));
            add(all, "right of " + c, x.corner(c, 1));
        }
        for (int i = 0; i < 3; i++) {
            add(all, "gloves " + i, x.gloves(i));
        }
        for (int w = 0; w < WALKERS; w++) {
            for (int i = 0; i < 4; i++) {
                add(all, "walker " + w + " " + i, x.walker(w, i));
                add(all, "letter " + w + " " + i, x.letter(w, i));
            }
            add(all, "fits " + w, x.fits(w, 0));
            add(all, "fits as keeper " + w, x.fits(w, 1));
        }
    }
}
