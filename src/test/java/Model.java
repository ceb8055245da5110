import java.math.BigInteger;
import java.util.ArrayList;
import java.util.Arrays;
import java.util.List;
import java.util.TreeMap;
import java.util.TreeSet;

/**
 * The document once more, as literally and slowly as can be, to hold the class against:
 * whole sets are listed and sorted, smoke goes minute by minute, nothing is kept but the state.
 */
final class Model {
    static final int NONE = -1, UNKNOWN = -101, OUTSIDE = -102, STATE = -103, FULL = -104;
    private static final int[] BEARS = {4, 4, 1, 2, 6};

    record Gallery(int a, int b, int length, boolean door) {
        int other(int knot) {
            return knot == a ? b : a;
        }
    }

    static final class World {
        boolean[] open = new boolean[10];
        boolean moon;
        int[] gas = new int[7];
        int[] at = new int[6];
        boolean[] out = new boolean[6];
        int minutes;

        World copy() {
            World c = new World();
            c.open = open.clone();
            c.moon = moon;
            c.gas = gas.clone();
            c.at = at.clone();
            c.out = out.clone();
            c.minutes = minutes;
            return c;
        }

        int outs() {
            int n = 0;
            for (boolean o : out) {
                n += o ? 1 : 0;
            }
            return n;
        }
    }

    private String page = "";
    private List<Gallery> galleries = new ArrayList<>();
    private TreeMap<Integer, Integer> shafts = new TreeMap<>();
    private List<Integer> kinds = new ArrayList<>();
    private World world = new World();
    private World image;
    private int minesRead;
    private int doorsDone;

    // ---- the page

    int letters(long w) {
        StringBuilder more = new StringBuilder();
        boolean ended = false;
        for (int i = 0; i < 8; i++) {
            int letter = (int) (w >> 8 * i) & 0xff;
            if (letter > 126 || ended && letter != 0) {
                return OUTSIDE;
            }
            ended |= letter == 0;
            if (!ended) {
                more.append((char) letter);
            }
        }
        if (page.length() + more.length() > 66) {
            return FULL;
        }
        page += more;
        return page.length();
    }

    int blank() {
        int had = page.length();
        page = "";
        return had;
    }

    static boolean isMine(String text) {
        if (!text.matches("[0-6][0-6][1-9]d?(,[0-6][0-6][1-9]d?){0,9};([0-6][0-9]){2,7}")) {
            return false;
        }
        String[] parts = text.split(";");
        for (String g : parts[0].split(",")) {
            if (g.charAt(0) == g.charAt(1)) {
                return false;
            }
        }
        TreeSet<Character> seen = new TreeSet<>();
        for (int i = 0; i < parts[1].length(); i += 2) {
            if (!seen.add(parts[1].charAt(i))) {
                return false;
            }
        }
        return true;
    }

    /** Endings enough that each beginning of a MINE becomes one by one of them. */
    private static List<String> endings() {
        List<String> heads = new ArrayList<>(List.of("", "1"));
        List<String> shafts = new ArrayList<>(List.of(""));
        for (int i = 0; i < 7; i++) {
            heads.add(i + "1");
            shafts.add(i + "0");
            for (int j = 0; j < 7; j++) {
                heads.add("" + i + j + "1");
                shafts.add(i + "0" + j + "0");
            }
        }
        List<String> all = new ArrayList<>();
        for (String h : heads) {
            all.add(h + ";0010");
        }
        for (String s : shafts) {
            all.add(s);
            all.add("0" + s);
        }
        return all;
    }

    private static final List<String> ENDINGS = endings();

    int fault() {
        for (int n = 1; n <= page.length(); n++) {
            boolean begins = false;
            for (String ending : ENDINGS) {
                begins |= isMine(page.substring(0, n) + ending);
            }
            if (!begins) {
                return n - 1;
            }
        }
        return page.length();
    }

    int mine() {
        if (!isMine(page)) {
            return STATE;
        }
        String[] parts = page.split(";");
        galleries = new ArrayList<>();
        for (String g : parts[0].split(",")) {
            galleries.add(new Gallery(g.charAt(0) - '0', g.charAt(1) - '0', g.charAt(2) - '0', g.endsWith("d")));
        }
        shafts = new TreeMap<>();
        for (int i = 0; i < parts[1].length(); i += 2) {
            shafts.put(parts[1].charAt(i) - '0', parts[1].charAt(i + 1) - '0');
        }
        kinds = new ArrayList<>();
        world = new World();
        Arrays.fill(world.open, true);
        image = null;
        page = "";
        minesRead++;
        return galleries.size();
    }

    // ---- air

    private boolean noMine() {
        return galleries.isEmpty();
    }

    private static boolean knotIs(int k) {
        return k >= 0 && k <= 6;
    }

    private static boolean within(int v, int least, int most) {
        return v >= least && v <= most;
    }

    private int steps(World w, int from, int to) {
        TreeSet<Integer> here = new TreeSet<>(List.of(from));
        for (int n = 0; n < 8; n++) {
            if (here.contains(to)) {
                return n;
            }
            TreeSet<Integer> more = new TreeSet<>(here);
            for (int g = 0; g < galleries.size(); g++) {
                Gallery t = galleries.get(g);
                if (w.open[g] && here.contains(t.a)) {
                    more.add(t.b);
                }
                if (w.open[g] && here.contains(t.b)) {
                    more.add(t.a);
                }
            }
            here = more;
        }
        return NONE;
    }

    private int height(World w, int knot) {
        if (shafts.containsKey(knot)) {
            return 12 * (w.moon ? 9 - shafts.get(knot) : shafts.get(knot));
        }
        int nearest = 99;
        for (int s : shafts.keySet()) {
            int n = steps(w, knot, s);
            nearest = n == NONE ? nearest : Math.min(nearest, n);
        }
        int sum = 0;
        int many = 0;
        for (int s : shafts.keySet()) {
            if (steps(w, knot, s) == nearest) {
                sum += height(w, s);
                many++;
            }
        }
        return many == 0 ? NONE : sum / many;
    }

    private int[] flows(World w) {
        int[] into = new int[galleries.size()];
        int[] height = new int[7];
        for (int k = 0; k < 7; k++) {
            height[k] = height(w, k);
        }
        for (int g = 0; g < into.length; g++) {
            Gallery t = galleries.get(g);
            int a = height[t.a];
            int b = height[t.b];
            into[g] = !w.open[g] || a == NONE || b == NONE || a == b ? NONE : a > b ? t.b : t.a;
        }
        return into;
    }

    private boolean[] breathes(World w) {
        boolean[] air = new boolean[7];
        int[] into = flows(w);
        for (int g = 0; g < into.length; g++) {
            if (into[g] != NONE) {
                air[galleries.get(g).a] = true;
                air[galleries.get(g).b] = true;
            }
        }
        return air;
    }

    private static int yes(boolean b) {
        return b ? 1 : 0;
    }

    int gallery(int g, int what) {
        if (g < 0 || g >= galleries.size()) {
            return UNKNOWN;
        }
        Gallery t = galleries.get(g);
        return switch (what) {
            case 0 -> t.a;
            case 1 -> t.b;
            case 2 -> t.length;
            case 3 -> yes(t.door);
            case 4 -> yes(world.open[g]);
            case 5 -> flows(world)[g];
            default -> OUTSIDE;
        };
    }

    int knot(int k, int what) {
        if (noMine() || !knotIs(k)) {
            return UNKNOWN;
        }
        return switch (what) {
            case 0 -> shafts.getOrDefault(k, NONE);
            case 1 -> height(world, k);
            case 2 -> yes(breathes(world)[k]);
            case 3 -> world.gas[k];
            default -> OUTSIDE;
        };
    }

    int door(int g, boolean open) {
        if (g < 0 || g >= galleries.size()) {
            return UNKNOWN;
        }
        if (!galleries.get(g).door) {
            return STATE;
        }
        int was = yes(world.open[g]);
        world.open[g] = open;
        return was;
    }

    int turn() {
        if (noMine()) {
            return STATE;
        }
        world.moon = !world.moon;
        return yes(world.moon);
    }

    // ---- men

    private boolean manIs(int m) {
        return m >= 0 && m < kinds.size();
    }

    private boolean nose(int m) {
        return kinds.get(m) == 1 || kinds.get(m) == 4;
    }

    int man(int kind, int knot) {
        if (noMine()) {
            return STATE;
        }
        if (!within(kind, 0, 4)) {
            return OUTSIDE;
        }
        if (!knotIs(knot)) {
            return UNKNOWN;
        }
        if (kinds.size() == 6) {
            return FULL;
        }
        kinds.add(kind);
        world.at[kinds.size() - 1] = knot;
        image = null;
        return kinds.size() - 1;
    }

    int about(int m, int what) {
        if (!manIs(m)) {
            return UNKNOWN;
        }
        return switch (what) {
            case 0 -> kinds.get(m);
            case 1 -> world.at[m];
            case 2 -> yes(world.out[m]);
            case 3 -> BEARS[kinds.get(m)];
            default -> OUTSIDE;
        };
    }

    int as(int m, int kind) {
        if (!manIs(m)) {
            return UNKNOWN;
        }
        if (!within(kind, 0, 4)) {
            return OUTSIDE;
        }
        boolean is = kind == 0 || kind == kinds.get(m) || kind == 1 && nose(m);
        return is ? m : NONE;
    }

    int walk(int m, int g) {
        if (!manIs(m) || g < 0 || g >= galleries.size()) {
            return UNKNOWN;
        }
        Gallery t = galleries.get(g);
        if (world.out[m] || t.a != world.at[m] && t.b != world.at[m] || !world.open[g] && kinds.get(m) != 3) {
            return STATE;
        }
        world.at[m] = t.other(world.at[m]);
        return world.at[m];
    }

    private void minute(World w) {
        boolean[] air = breathes(w);
        for (int k = 0; k < 7; k++) {
            w.gas[k] = air[k] ? 0 : Math.min(9, w.gas[k] + 1);
        }
        for (int m = 0; m < kinds.size(); m++) {
            w.out[m] |= w.gas[w.at[m]] > BEARS[kinds.get(m)];
        }
        w.minutes++;
    }

    int minutes(int n) {
        if (!within(n, 1, 60)) {
            return OUTSIDE;
        }
        if (noMine()) {
            return STATE;
        }
        int before = world.outs();
        for (int i = 0; i < n; i++) {
            minute(world);
        }
        return world.outs() - before;
    }

    // ---- what would be

    private int[][] smoke() {
        int[] into = flows(world);
        int[][] first = new int[7][];
        for (int fire = 0; fire < 7; fire++) {
            boolean[][] is = new boolean[100][7];
            is[0][fire] = true;
            first[fire] = new int[7];
            Arrays.fill(first[fire], NONE);
            for (int t = 0; t < 100; t++) {
                for (int g = 0; g < into.length; g++) {
                    int ago = t - galleries.get(g).length;
                    if (into[g] != NONE && ago >= 0 && is[ago][galleries.get(g).other(into[g])]) {
                        is[t][into[g]] = true;
                    }
                }
                for (int k = 0; k < 7; k++) {
                    is[t][k] |= t > 0 && is[t - 1][k];
                    if (is[t][k] && first[fire][k] == NONE) {
                        first[fire][k] = t;
                    }
                }
            }
        }
        return first;
    }

    int smelt(int fire, int knot) {
        if (noMine()) {
            return STATE;
        }
        if (!knotIs(fire) || !knotIs(knot)) {
            return UNKNOWN;
        }
        return smoke()[fire][knot];
    }

    int doors(int set, int what) {
        if (noMine()) {
            return STATE;
        }
        if (!within(set, 0, 127) || !within(what, 0, 1)) {
            return OUTSIDE;
        }
        if (doorsDone == 40) {
            return STATE;
        }
        doorsDone++;
        List<Integer> moves = new ArrayList<>();
        for (int bits = 0; bits < 1 << galleries.size(); bits++) {
            moves.add(bits);
        }
        moves.sort((p, q) -> Integer.bitCount(p) != Integer.bitCount(q)
            ? Integer.compare(Integer.bitCount(p), Integer.bitCount(q)) : Integer.compare(p, q));
        for (int bits : moves) {
            if (canMove(bits) && wouldBreathe(bits, set)) {
                return what == 0 ? Integer.bitCount(bits) : bits;
            }
        }
        return NONE;
    }

    private boolean canMove(int bits) {
        for (int g = 0; g < galleries.size(); g++) {
            if ((bits >> g & 1) == 1 && !galleries.get(g).door) {
                return false;
            }
        }
        return true;
    }

    private boolean wouldBreathe(int bits, int set) {
        World w = world.copy();
        for (int g = 0; g < galleries.size(); g++) {
            w.open[g] ^= (bits >> g & 1) == 1;
        }
        boolean[] air = breathes(w);
        for (int k = 0; k < 7; k++) {
            if ((set >> k & 1) == 1 && !air[k]) {
                return false;
            }
        }
        return true;
    }

    int wayOut(int knot) {
        if (noMine()) {
            return STATE;
        }
        if (!knotIs(knot)) {
            return UNKNOWN;
        }
        if (shafts.containsKey(knot)) {
            return 0;
        }
        int[] into = flows(world);
        for (int g = 0; g < into.length; g++) {
            if (into[g] == knot) {
                int on = wayOut(galleries.get(g).other(knot));
                return on == NONE ? NONE : on + 1;
            }
        }
        return NONE;
    }

    private boolean badTale(int minutes, int set) {
        boolean bad = !within(minutes, 0, 60);
        for (int m = 0; m < 32; m++) {
            bad |= (set >>> m & 1) == 1 && (!manIs(m) || !nose(m));
        }
        return bad;
    }

    int fire(int minutes, int set) {
        if (noMine()) {
            return STATE;
        }
        if (badTale(minutes, set)) {
            return OUTSIDE;
        }
        int[][] smoke = smoke();
        int bits = 0;
        for (int f = 0; f < 7; f++) {
            boolean could = true;
            for (int m = 0; m < kinds.size(); m++) {
                if (nose(m)) {
                    int t = smoke[f][world.at[m]];
                    could &= (t != NONE && t <= minutes) == ((set >> m & 1) == 1);
                }
            }
            bits |= could ? 1 << f : 0;
        }
        return bits;
    }

    int next(int minutes, int set) {
        int fires = fire(minutes, set);
        if (fires < 0) {
            return fires;
        }
        int[][] smoke = smoke();
        int[] worst = new int[7];
        for (int k = 0; k < 7; k++) {
            int yes = 0;
            int no = 0;
            for (int f = 0; f < 7; f++) {
                if ((fires >> f & 1) == 1) {
                    boolean smelt = smoke[f][k] != NONE && smoke[f][k] <= minutes;
                    yes += smelt ? 1 : 0;
                    no += smelt ? 0 : 1;
                }
            }
            worst[k] = Math.max(yes, no);
        }
        int best = 6;
        for (int k = 6; k >= 0; k--) {
            best = worst[k] <= worst[best] ? k : best;
        }
        return best;
    }

    private int way(int from, int to) {
        int[] least = new int[7];
        Arrays.fill(least, 9999);
        least[from] = 0;
        for (int round = 0; round < 8; round++) {
            for (int g = 0; g < galleries.size(); g++) {
                Gallery t = galleries.get(g);
                if (world.open[g]) {
                    least[t.a] = Math.min(least[t.a], least[t.b] + t.length);
                    least[t.b] = Math.min(least[t.b], least[t.a] + t.length);
                }
            }
        }
        return least[to] >= 9999 ? NONE : least[to];
    }

    private void orders(List<Integer> done, List<Integer> left, List<List<Integer>> all) {
        if (left.isEmpty()) {
            all.add(new ArrayList<>(done));
        }
        for (Integer k : left) {
            List<Integer> rest = new ArrayList<>(left);
            rest.remove(k);
            done.add(k);
            orders(done, rest, all);
            done.remove(done.size() - 1);
        }
    }

    int rescue(int from, int set, int what) {
        if (noMine()) {
            return STATE;
        }
        if (!knotIs(from)) {
            return UNKNOWN;
        }
        if (!within(set, 0, 127) || Integer.bitCount(set) > 5 || what != 0 && !within(what, 10, 14)) {
            return OUTSIDE;
        }
        List<Integer> told = new ArrayList<>();
        for (int k = 0; k < 7; k++) {
            if ((set >> k & 1) == 1) {
                told.add(k);
                if (way(from, k) == NONE) {
                    return NONE;
                }
            }
        }
        List<List<Integer>> all = new ArrayList<>();
        orders(new ArrayList<>(), told, all);
        int[][] ways = new int[7][7];
        for (int i = 0; i < 49; i++) {
            ways[i / 7][i % 7] = way(i / 7, i % 7);
        }
        int least = Integer.MAX_VALUE;
        List<Integer> best = null;
        for (List<Integer> order : all) {
            int risk = 0;
            int length = 0;
            int at = from;
            for (int k : order) {
                length += ways[at][k];
                risk += (world.gas[k] + 1) * length;
                at = k;
            }
            if (risk < least) {
                least = risk;
                best = order;
            }
        }
        return what == 0 ? least : what - 10 < best.size() ? best.get(what - 10) : NONE;
    }

    private BigInteger seed;

    private int draw(int many) {
        seed = seed.multiply(BigInteger.valueOf(1103515245)).add(BigInteger.valueOf(12345)).mod(BigInteger.ONE.shiftLeft(31));
        return seed.divide(BigInteger.valueOf(65536)).mod(BigInteger.valueOf(many)).intValue();
    }

    int walks(int times, int start, int what) {
        if (noMine()) {
            return STATE;
        }
        if (!within(times, 1, 60) || start < 0 || !within(what, 0, 3)) {
            return OUTSIDE;
        }
        World w = world.copy();
        seed = BigInteger.valueOf(start);
        for (int i = 0; i < times; i++) {
            int m = kinds.isEmpty() ? NONE : draw(kinds.size());
            if (m != NONE && !w.out[m]) {
                List<Integer> ways = new ArrayList<>();
                for (int g = 0; g < galleries.size(); g++) {
                    Gallery t = galleries.get(g);
                    if (w.open[g] && (t.a == w.at[m] || t.b == w.at[m])) {
                        ways.add(g);
                    }
                }
                if (!ways.isEmpty()) {
                    w.at[m] = galleries.get(ways.get(draw(ways.size()))).other(w.at[m]);
                }
            }
            minute(w);
        }
        return switch (what) {
            case 0 -> w.outs();
            case 1 -> kinds.isEmpty() ? NONE : w.at[0];
            case 2 -> Arrays.stream(w.gas).sum();
            default -> seed.intValueExact();
        };
    }

    // ---- what is told of all

    int image() {
        if (noMine()) {
            return STATE;
        }
        image = world.copy();
        return world.minutes;
    }

    int restore() {
        if (image == null) {
            return STATE;
        }
        world = image.copy();
        return world.minutes;
    }

    int count(int what) {
        return switch (what) {
            case 0 -> galleries.size();
            case 1 -> (int) galleries.stream().filter(Gallery::door).count();
            case 2 -> shafts.size();
            case 3 -> kinds.size();
            case 4 -> yes(world.moon);
            case 5 -> world.minutes;
            case 6 -> page.length();
            case 7 -> minesRead;
            case 8 -> doorsDone;
            default -> OUTSIDE;
        };
    }

    long digest() {
        List<Integer> told = new ArrayList<>();
        for (int g = 0; g < galleries.size(); g++) {
            for (int what = 0; what < 6; what++) {
                told.add(gallery(g, what));
            }
        }
        for (int k = 0; k < 7 && !noMine(); k++) {
            for (int what = 0; what < 4; what++) {
                told.add(knot(k, what));
            }
            told.add(smelt(k, 0));
            told.add(wayOut(k));
        }
        for (int m = 0; m < kinds.size(); m++) {
            for (int what = 0; what < 4; what++) {
                told.add(about(m, what));
            }
        }
        for (char letter : page.toCharArray()) {
            told.add((int) letter);
        }
        for (int what = 0; what < 9; what++) {
            told.add(count(what));
        }
        long h = 659;
        for (int t : told) {
            h = 31 * h + t;
        }
        return h;
    }
}
