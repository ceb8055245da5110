import java.util.Random;

/** Random runs of calls: the class and the model answer alike. */
public final class ModelTest {
    private static final int RUNS = 400;
    private static final int CALLS = 512;
    private static final int[] ODD = {-1, -2, 7, 10, 14, 15, 60, 61, 127, 128, 255, 64, 1 << 30,
        Integer.MAX_VALUE, Integer.MIN_VALUE, Integer.MIN_VALUE + 1};

    private final Random random;
    private final Check check = new Check();
    private MoleMaps x;
    private Model m;
    private String text = "";

    private ModelTest(long seed) {
        random = new Random(seed);
    }

    public static void main(String[] args) {
        ModelTest test = new ModelTest(20261119L);
        for (int run = 0; run < RUNS; run++) {
            test.run();
        }
        test.check.end("ModelTest");
    }

    private void run() {
        x = new MoleMaps();
        m = new Model();
        for (int i = 0; i < CALLS; i++) {
            call();
        }
    }

    private int upTo(int most) {
        return random.nextInt(most + 1);
    }

    /** Mostly a number that means something, now and then one that does not. */
    private int about(int most) {
        return upTo(19) == 0 ? ODD[upTo(ODD.length - 1)] : upTo(most);
    }

    private String aMine() {
        StringBuilder b = new StringBuilder();
        int galleries = 1 + upTo(9);
        int knots = 3 + upTo(3);
        for (int i = 0; i < galleries; i++) {
            int one = upTo(knots);
            int two = (one + 1 + upTo(knots - 1)) % (knots + 1);
            b.append(i == 0 ? "" : ",").append(one).append(two).append(1 + upTo(8)).append(upTo(2) == 0 ? "" : "d");
        }
        b.append(';');
        int shafts = 2 + (upTo(4) == 0 ? upTo(5) : upTo(1));
        for (int k = upTo(6), step = 1 + upTo(5), i = 0; i < shafts; i++, k = (k + step) % 7) {
            b.append(k).append(upTo(9));
        }
        return b.toString();
    }

    private void same(String call, long got, long want) {
        check.due(call + " in " + text, got, want);
    }

    private void typed(String letters) {
        for (int at = 0; at < letters.length(); at += 8) {
            long w = Check.letters(letters.substring(at, Math.min(letters.length(), at + 8)));
            same("letters(" + w + ")", x.letters(w), m.letters(w));
        }
    }

    private void readMine() {
        same("blank()", x.blank(), m.blank());
        StringBuilder mine = new StringBuilder(aMine());
        if (upTo(3) == 0) {
            mine.setCharAt(upTo(mine.length() - 1), "0123456789d,;x".charAt(upTo(13)));
        }
        if (upTo(5) == 0) {
            mine.setLength(upTo(mine.length()));
        }
        text = mine.toString();
        typed(text);
        same("fault()", x.fault(), m.fault());
        same("mine()", x.mine(), m.mine());
    }

    private void call() {
        int which = upTo(60);
        if (which < 12) {
            callOfPage(which);
        } else if (which < 30) {
            callOfState(which);
        } else if (which < 51) {
            callOfWhatWouldBe(which);
        } else {
            callOfAll(which);
        }
    }

    private void callOfPage(int which) {
        switch (which) {
            case 0 -> {
                long w = upTo(1) == 0 ? random.nextLong() : Check.letters("1d;,x~0".substring(0, upTo(7)));
                same("letters(" + w + ")", x.letters(w), m.letters(w));
            }
            case 1 -> same("blank()", x.blank(), m.blank());
            case 2 -> same("fault()", x.fault(), m.fault());
            case 3 -> same("mine()", x.mine(), m.mine());
            case 4 -> {
                if (upTo(3) == 0 || m.count(0) == 0) {
                    readMine();
                }
            }
            case 5, 6, 7, 8 -> {
                int g = about(9);
                int what = about(5);
                same("gallery(" + g + ", " + what + ")", x.gallery(g, what), m.gallery(g, what));
            }
            default -> {
                int k = about(6);
                int what = about(3);
                same("knot(" + k + ", " + what + ")", x.knot(k, what), m.knot(k, what));
            }
        }
    }

    private void callOfState(int which) {
        int a = about(9);
        int b = about(5);
        switch (which) {
            case 12, 13, 14, 15 -> {
                boolean open = random.nextBoolean();
                same("door(" + a + ", " + open + ")", x.door(a, open), m.door(a, open));
            }
            case 16 -> same("turn()", x.turn(), m.turn());
            case 17, 18 -> {
                int kind = about(4);
                int knot = about(6);
                same("man(" + kind + ", " + knot + ")", x.man(kind, knot), m.man(kind, knot));
            }
            case 19, 20 -> same("about(" + b + ", " + a % 4 + ")", x.about(b, a % 4), m.about(b, a % 4));
            case 21 -> same("as(" + b + ", " + a % 6 + ")", x.as(b, a % 6), m.as(b, a % 6));
            case 22 -> {
                int n = upTo(3) == 0 ? about(60) : 1 + upTo(2);
                same("minutes(" + n + ")", x.minutes(n), m.minutes(n));
            }
            default -> same("walk(" + b + ", " + a + ")", x.walk(b, a), m.walk(b, a));
        }
    }

    private void callOfWhatWouldBe(int which) {
        int knot = about(6);
        int minutes = upTo(1) == 0 ? upTo(12) : about(60);
        int men = about(upTo(2) == 0 ? 63 : 0);
        switch (which) {
            case 30, 31, 32 -> {
                int fire = about(6);
                same("smelt(" + fire + ", " + knot + ")", x.smelt(fire, knot), m.smelt(fire, knot));
            }
            case 33 -> {
                int set = upTo(2) == 0 ? about(127) : 1 << upTo(6);
                int what = about(1);
                same("doors(" + set + ", " + what + ")", x.doors(set, what), m.doors(set, what));
            }
            case 34, 35, 36 -> same("wayOut(" + knot + ")", x.wayOut(knot), m.wayOut(knot));
            case 37, 38, 39, 40 -> same("fire(" + minutes + ", " + men + ")", x.fire(minutes, men), m.fire(minutes, men));
            case 41, 42, 43 -> same("next(" + minutes + ", " + men + ")", x.next(minutes, men), m.next(minutes, men));
            case 44, 45, 46, 47 -> {
                int set = about(127);
                int what = upTo(3) == 0 ? about(15) : 10 * upTo(1);
                same("rescue(" + knot + ", " + set + ", " + what + ")", x.rescue(knot, set, what), m.rescue(knot, set, what));
            }
            default -> {
                int times = about(60);
                int seed = upTo(4) == 0 ? random.nextInt() : upTo(1000);
                int what = about(3);
                same("walks(" + times + ", " + seed + ", " + what + ")", x.walks(times, seed, what), m.walks(times, seed, what));
            }
        }
    }

    private void callOfAll(int which) {
        switch (which) {
            case 51 -> same("image()", x.image(), m.image());
            case 52, 53 -> same("restore()", x.restore(), m.restore());
            case 54, 55 -> {
                int what = about(8);
                same("count(" + what + ")", x.count(what), m.count(what));
            }
            default -> same("digest()", x.digest(), m.digest());
        }
    }
}
