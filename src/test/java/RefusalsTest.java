import java.util.ArrayList;
import java.util.List;
import java.util.function.Supplier;
import java.util.function.ToLongFunction;

/**
 * "Refusals, of several the first as told by each call: UNKNOWN, OUTSIDE, STATE, FULL; they change nothing": in each of
 * some states every call is made with each mixture of bad numbers; it answers the first refusal that the document tells
 * of it, and behind it the object answers all that an untouched one answers, what it keeps unseen (the IMAGE) too.
 */
public final class RefusalsTest {
    private static final int UNKNOWN = -101, OUTSIDE = -102, STATE = -103, FULL = -104;
    private static final int LEAST = Integer.MIN_VALUE, MOST = Integer.MAX_VALUE;
    private static final String LINE = "014,122d,235;0920";
    private static final int CHUNK = 150;

    private record Refusal(String call, long want, ToLongFunction<MoleMaps> asked) {
    }

    /** What the document asks of its calls in a state hangs on these alone. */
    private record Facts(String name, Supplier<MoleMaps> made, int galleries, int men, boolean doorsAreDone, int letters) {
        boolean noMine() {
            return galleries == 0;
        }
    }

    private static final Check check = new Check();

    private final Facts facts;
    private final List<Refusal> refusals = new ArrayList<>();

    private RefusalsTest(Facts facts) {
        this.facts = facts;
    }

    public static void main(String[] args) {
        check.of("Refusals, of several the first as told by each call: UNKNOWN (a number names nothing), "
            + "OUTSIDE (it is not as told), STATE (as told), FULL; they change nothing.");
        new RefusalsTest(new Facts("a new object", MoleMaps::new, 0, 0, false, 0)).hold();
        new RefusalsTest(new Facts("a full page, no mine", RefusalsTest::fullPage, 0, 0, false, 66)).hold();
        new RefusalsTest(new Facts("a mine just read", () -> Check.mineOf(LINE), 3, 0, false, 0)).hold();
        new RefusalsTest(new Facts("a mine in use", RefusalsTest::inUse, 3, 5, false, 60)).hold();
        new RefusalsTest(new Facts("all that is full", RefusalsTest::allFull, 3, 6, true, 66)).hold();
        check.end("RefusalsTest");
    }

    private static MoleMaps fullPage() {
        MoleMaps x = new MoleMaps();
        Check.type(x, "0".repeat(66));
        return x;
    }

    /** MEN of all kinds: 0 MAN at 1, 1 CANARY at 3 (OUT), 2 NOSE at 2, 3 BOY at 0, 4 CHIEF at 6; the DOOR is shut. */
    private static MoleMaps inUse() {
        MoleMaps x = Check.mineOf(LINE);
        int[] at = {1, 3, 2, 0, 6};
        int[] kinds = {0, 2, 1, 3, 4};
        for (int man = 0; man < 5; man++) {
            x.man(kinds[man], at[man]);
        }
        x.minutes(1);
        x.image();
        x.minutes(1);
        x.turn();
        x.door(1, false);
        x.doors(7, 0);
        Check.type(x, "9".repeat(60));
        return x;
    }

    private static MoleMaps allFull() {
        MoleMaps x = inUse();
        x.man(0, 5);
        x.image();
        x.minutes(1);
        while (x.count(8) < 40) {
            x.doors(1, 0);
        }
        Check.type(x, "999999");
        return x;
    }

    private void hold() {
        ofPage();
        ofMine();
        ofMen();
        ofAsAndWalk();
        ofMinutesAndSmelt();
        ofDoors();
        ofNoses();
        ofRescue();
        ofWalks();
        ofAll();
        List<Long> untouched = answers(facts.made.get());
        for (Refusal r : refusals) {
            MoleMaps x = facts.made.get();
            refused(r, x);
            same(r.call, answers(x), untouched);
        }
        for (int from = 0; from < refusals.size(); from += CHUNK) {
            MoleMaps x = facts.made.get();
            for (Refusal r : refusals.subList(from, Math.min(refusals.size(), from + CHUNK))) {
                refused(r, x);
            }
            same("all refusals in a row", answers(x), untouched);
        }
    }

    private void refused(Refusal r, MoleMaps x) {
        check.due(facts.name + ": " + r.call, r.asked.applyAsLong(x), r.want);
    }

    private void same(String behind, List<Long> got, List<Long> want) {
        for (int i = 0; i < want.size(); i++) {
            check.due(facts.name + ": answer " + i + " behind " + behind, got.get(i), want.get(i));
        }
    }

    // ---- what each call refuses, in the order that the document tells

    /** Of pairs of whether and with what a call refuses the first that holds; 0, if none does. */
    private static long first(boolean one, long as, boolean two, long asTwo) {
        return one ? as : two ? asTwo : 0;
    }

    private void add(String call, long want, ToLongFunction<MoleMaps> asked) {
        if (want != 0) {
            refusals.add(new Refusal(call, want, asked));
        }
    }

    private static boolean within(long n, long least, long most) {
        return n >= least && n <= most;
    }

    /** The last two numbers that are allowed, the first that are not on either side, and the ends of all numbers. */
    private static int[] around(int least, int most) {
        return new int[] {LEAST, LEAST + 1, least - 1, least, most, most + 1, MOST};
    }

    private boolean galleryIs(int g) {
        return within(g, 0, facts.galleries - 1);
    }

    private boolean manIs(int m) {
        return within(m, 0, facts.men - 1);
    }

    private static boolean knotIs(int k) {
        return within(k, 0, 6);
    }

    private void ofPage() {
        long[] outside = {127, 128, 255, -1, Long.MIN_VALUE, Long.MAX_VALUE, 256, 1L << 56, 127L << 56, 'a' | 'b' << 16};
        for (long w : outside) {
            add("letters(" + w + ")", OUTSIDE, x -> x.letters(w));
        }
        long eight = Check.letters("abcdefgh");
        add("letters of eight", facts.letters > 58 ? FULL : 0, x -> x.letters(eight));
        add("letters of one", facts.letters == 66 ? FULL : 0, x -> x.letters('a'));
    }

    private void ofMine() {
        add("mine()", STATE, MoleMaps::mine);
        for (int g : around(0, facts.galleries - 1)) {
            for (int what : around(0, 5)) {
                long want = first(!galleryIs(g), UNKNOWN, !within(what, 0, 5), OUTSIDE);
                add("gallery(" + g + ", " + what + ")", want, x -> x.gallery(g, what));
            }
        }
        for (int k : around(0, 6)) {
            for (int what : around(0, 3)) {
                long want = first(facts.noMine() || !knotIs(k), UNKNOWN, !within(what, 0, 3), OUTSIDE);
                add("knot(" + k + ", " + what + ")", want, x -> x.knot(k, what));
            }
        }
        for (int g : new int[] {LEAST, -1, 0, 2, 3, 32, 33, MOST}) {
            long want = first(!galleryIs(g), UNKNOWN, g != 1, STATE);
            add("door(" + g + ", false)", want, x -> x.door(g, false));
            add("door(" + g + ", true)", want, x -> x.door(g, true));
        }
        add("turn()", facts.noMine() ? STATE : 0, MoleMaps::turn);
    }

    private void ofMen() {
        for (int kind : around(0, 4)) {
            for (int knot : around(0, 6)) {
                long rest = first(!knotIs(knot), UNKNOWN, facts.men == 6, FULL);
                long want = first(facts.noMine(), STATE, !within(kind, 0, 4), OUTSIDE);
                add("man(" + kind + ", " + knot + ")", want != 0 ? want : rest, x -> x.man(kind, knot));
            }
        }
        for (int man : around(0, facts.men - 1)) {
            for (int what : around(0, 3)) {
                long want = first(!manIs(man), UNKNOWN, !within(what, 0, 3), OUTSIDE);
                add("about(" + man + ", " + what + ")", want, x -> x.about(man, what));
            }
        }
    }

    private void ofAsAndWalk() {
        for (int man : around(0, facts.men - 1)) {
            for (int kind : around(0, 4)) {
                long want = first(!manIs(man), UNKNOWN, !within(kind, 0, 4), OUTSIDE);
                add("as(" + man + ", " + kind + ")", want, x -> x.as(man, kind));
            }
        }
        // Each GALLERY to each MAN, when MEN are as inUse() tells: who can walk none but 0 at 0, 2 at 2, 3 at 0.
        for (int man = -1; man <= facts.men; man++) {
            for (int g = -1; g <= facts.galleries; g++) {
                boolean walks = man == 0 && g == 0 || man == 2 && g == 2 || man == 3 && g == 0;
                walkRefused(man, g, first(!manIs(man) || !galleryIs(g), UNKNOWN, !walks, STATE));
            }
        }
        for (int bad : new int[] {LEAST, MOST}) {
            walkRefused(bad, 0, UNKNOWN);
            walkRefused(1, bad, UNKNOWN);
        }
    }

    private void walkRefused(int man, int gallery, long want) {
        add("walk(" + man + ", " + gallery + ")", want, x -> x.walk(man, gallery));
    }

    private void ofMinutesAndSmelt() {
        for (int minutes : around(1, 60)) {
            long want = first(!within(minutes, 1, 60), OUTSIDE, facts.noMine(), STATE);
            add("minutes(" + minutes + ")", want, x -> x.minutes(minutes));
        }
        for (int fire : around(0, 6)) {
            for (int knot : around(0, 6)) {
                long want = first(facts.noMine(), STATE, !knotIs(fire) || !knotIs(knot), UNKNOWN);
                add("smelt(" + fire + ", " + knot + ")", want, x -> x.smelt(fire, knot));
            }
            long want = first(facts.noMine(), STATE, !knotIs(fire), UNKNOWN);
            add("wayOut(" + fire + ")", want, x -> x.wayOut(fire));
        }
    }

    private void ofDoors() {
        for (int set : around(0, 127)) {
            for (int what : around(0, 1)) {
                boolean outside = !within(set, 0, 127) || !within(what, 0, 1);
                long want = first(facts.noMine(), STATE, outside, OUTSIDE);
                add("doors(" + set + ", " + what + ")", want != 0 || !facts.doorsAreDone ? want : STATE, x -> x.doors(set, what));
            }
        }
    }

    /** Of the MEN in use 2 and 4 are NOSES. */
    private void ofNoses() {
        int noses = facts.men > 4 ? 4 + 16 : 0;
        for (int minutes : around(0, 60)) {
            for (int set : new int[] {LEAST, LEAST + 4, -1, 0, 1, 2, 4, 5, 8, 16, 20, 32, 52, 64, 84, 1 << 30, MOST}) {
                boolean outside = !within(minutes, 0, 60) || (set & ~noses) != 0;
                long want = first(facts.noMine(), STATE, outside, OUTSIDE);
                add("fire(" + minutes + ", " + set + ")", want, x -> x.fire(minutes, set));
                add("next(" + minutes + ", " + set + ")", want, x -> x.next(minutes, set));
            }
        }
    }

    private void ofRescue() {
        for (int from : new int[] {LEAST, -1, 0, 6, 7, MOST}) {
            for (int set : new int[] {LEAST, -1, 0, 31, 62, 63, 126, 127, 128, 129, MOST}) {
                for (int what : new int[] {LEAST, LEAST + 10, LEAST + 14, -1, 0, 1, 9, 10, 14, 15, MOST}) {
                    boolean fits = within(set, 0, 127) && Integer.bitCount(set) <= 5 && (what == 0 || within(what, 10, 14));
                    long rest = first(!knotIs(from), UNKNOWN, !fits, OUTSIDE);
                    add("rescue(" + from + ", " + set + ", " + what + ")", facts.noMine() ? STATE : rest,
                        x -> x.rescue(from, set, what));
                }
            }
        }
    }

    private void ofWalks() {
        for (int times : around(1, 60)) {
            for (int seed : new int[] {LEAST, -1, 0, MOST}) {
                for (int what : around(0, 3)) {
                    boolean outside = !within(times, 1, 60) || seed < 0 || !within(what, 0, 3);
                    long want = first(facts.noMine(), STATE, outside, OUTSIDE);
                    add("walks(" + times + ", " + seed + ", " + what + ")", want, x -> x.walks(times, seed, what));
                }
            }
        }
    }

    private void ofAll() {
        add("image()", facts.noMine() ? STATE : 0, MoleMaps::image);
        // Of these states those alone that MEN are in have an IMAGE.
        add("restore()", facts.men == 0 ? STATE : 0, MoleMaps::restore);
        for (int what : around(0, 8)) {
            add("count(" + what + ")", within(what, 0, 8) ? 0 : OUTSIDE, x -> x.count(what));
        }
    }

    // ---- all that an object answers

    private static List<Long> answers(MoleMaps x) {
        List<Long> all = new ArrayList<>();
        askAsItIs(x, all);
        askWhatWouldBe(x, all);
        askOnward(x, all);
        return all;
    }

    private static void askAsItIs(MoleMaps x, List<Long> all) {
        all.add(x.digest());
        all.add((long) x.fault());
        for (int what = 0; what <= 8; what++) {
            all.add((long) x.count(what));
        }
        for (int g = 0; g < 3; g++) {
            for (int what = 0; what <= 5; what++) {
                all.add((long) x.gallery(g, what));
            }
        }
        for (int knot = 0; knot < 7; knot++) {
            for (int what = 0; what <= 3; what++) {
                all.add((long) x.knot(knot, what));
            }
        }
        for (int man = 0; man < 6; man++) {
            for (int what = 0; what <= 3; what++) {
                all.add((long) x.about(man, what));
            }
        }
    }

    private static void askWhatWouldBe(MoleMaps x, List<Long> all) {
        for (int knot = 0; knot < 7; knot++) {
            all.add((long) x.wayOut(knot));
            all.add((long) x.smelt(knot, 1));
        }
        for (int set : new int[] {0, 4, 16}) {
            all.add((long) x.fire(9, set));
            all.add((long) x.next(9, set));
        }
        for (int what : new int[] {0, 10, 11, 12}) {
            all.add((long) x.rescue(3, 12, what));
            all.add((long) x.walks(9, 77, what % 10));
        }
    }

    /** Goes on with the object, so that what it keeps unseen comes to light. */
    private static void askOnward(MoleMaps x, List<Long> all) {
        all.add((long) x.doors(7, 0));
        all.add((long) x.doors(7, 1));
        all.add((long) x.restore());
        all.add(x.digest());
        all.add((long) x.minutes(2));
        all.add((long) x.turn());
        all.add(x.digest());
        all.add((long) x.restore());
        all.add(x.digest());
        all.add((long) x.man(2, 4));
        all.add((long) x.restore());
        all.add((long) x.image());
        all.add((long) x.minutes(2));
        all.add((long) x.restore());
        all.add(x.digest());
        all.add((long) x.letters('z'));
        all.add((long) x.blank());
        all.add((long) Check.type(x, LINE));
        all.add((long) x.mine());
        all.add((long) x.restore());
        all.add(x.digest());
    }
}
