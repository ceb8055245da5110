import java.util.function.LongSupplier;

/** For each promise of the document: ordinary calls, the edges it names, and each refusal. */
public final class PromisesTest {
    private static final int NONE = -1, UNKNOWN = -101, OUTSIDE = -102, STATE = -103, FULL = -104;
    private static final int LEAST = Integer.MIN_VALUE, MOST = Integer.MAX_VALUE;
    /** 0 is high by DAY, 2 is low, 1 lies between, 3 behind 2; 4 to 6 lie nowhere. */
    private static final String LINE = "014,122d,235;0920";
    private static final String LARGEST =
        "019d,129d,239d,349d,459d,569d,609d,029d,139d,249d;09182736455463";

    private static final Check check = new Check();

    public static void main(String[] args) {
        newObject();
        letters();
        blank();
        fault();
        mine();
        gallery();
        knot();
        knotHeights();
        door();
        turn();
        man();
        about();
        as();
        walk();
        minutes();
        smelt();
        doors();
        doorsForty();
        wayOut();
        fire();
        next();
        rescue();
        walks();
        walksByDraw();
        walksOfNobody();
        image();
        restore();
        restoreRefused();
        count();
        digest();
        check.end("PromisesTest");
    }

    /** What follows, up to the next promise, holds this one, which is quoted whole. */
    private static void of(String promise) {
        check.of(promise);
    }

    private static void due(String call, long got, long want) {
        check.due(call, got, want);
    }

    private static void refused(String call, MoleMaps x, long want, LongSupplier asked) {
        check.refused(call, x, want, asked);
    }

    private static void newObject() {
        of("No MINE.");
        due("1: NONE", MoleMaps.NONE, NONE);
        due("1: UNKNOWN", MoleMaps.UNKNOWN, UNKNOWN);
        due("1: OUTSIDE", MoleMaps.OUTSIDE, OUTSIDE);
        due("1: STATE", MoleMaps.STATE, STATE);
        due("1: FULL", MoleMaps.FULL, FULL);
        MoleMaps x = new MoleMaps();
        for (int what = 0; what <= 8; what++) {
            due("1: count(" + what + ")", x.count(what), 0);
        }
        refused("1: mine()", x, STATE, x::mine);
        refused("1: gallery(0, 0)", x, UNKNOWN, () -> x.gallery(0, 0));
        refused("1: knot(0, 0)", x, UNKNOWN, () -> x.knot(0, 0));
        refused("1: door(0, true)", x, UNKNOWN, () -> x.door(0, true));
        refused("1: turn()", x, STATE, x::turn);
        refused("1: about(0, 0)", x, UNKNOWN, () -> x.about(0, 0));
        refused("1: as(0, 0)", x, UNKNOWN, () -> x.as(0, 0));
        refused("1: walk(0, 0)", x, UNKNOWN, () -> x.walk(0, 0));
        refused("1: minutes(1)", x, STATE, () -> x.minutes(1));
        refused("1: image()", x, STATE, x::image);
        refused("1: restore()", x, STATE, x::restore);
    }

    private static void letters() {
        of("Letters come behind THE PAGE, up to eight, told by their codes in the bytes of w, the lowest byte "
            + "first, until a byte that is 0: how many THE PAGE has. OUTSIDE: a byte above 126, or one behind a 0 "
            + "that is not 0; FULL: above 66.");
        MoleMaps x = new MoleMaps();
        due("2: letters(0)", x.letters(0), 0);
        due("2: two letters", x.letters('0' | '1' << 8), 2);
        due("2: one behind them", x.letters('4'), 3);
        due("2: the lowest byte came first", x.fault(), 3);
        due("2: none", x.letters(0), 3);
        due("2: eight", x.letters(Check.letters("abcdefgh")), 11);
        due("2: the highest letter", x.letters(126), 12);
        due("2: the lowest letter", x.letters(1), 13);
        refused("2: 127", x, OUTSIDE, () -> x.letters(127));
        refused("2: 128", x, OUTSIDE, () -> x.letters(128));
        refused("2: 255 behind a letter", x, OUTSIDE, () -> x.letters('0' | 255 << 8));
        refused("2: -1", x, OUTSIDE, () -> x.letters(-1L));
        refused("2: 127 as the eighth", x, OUTSIDE, () -> x.letters(127L << 56 | Check.letters("abcdefg")));
        refused("2: behind a 0", x, OUTSIDE, () -> x.letters('0' | '1' << 16));
        refused("2: behind a first 0", x, OUTSIDE, () -> x.letters(256));
        refused("2: behind seven 0", x, OUTSIDE, () -> x.letters(1L << 56));
        refused("2: least", x, OUTSIDE, () -> x.letters(Long.MIN_VALUE));
        x.blank();
        due("2: 64 letters", Check.type(x, "0123456701234567012345670123456701234567012345670123456701234567"), 64);
        refused("2: three more", x, FULL, () -> x.letters(Check.letters("abc")));
        refused("2: outside ahead of full", x, OUTSIDE, () -> x.letters('0' | '1' << 16));
        due("2: two more", x.letters(Check.letters("ab")), 66);
        refused("2: the 67th", x, FULL, () -> x.letters('c'));
        due("2: none behind the 66th", x.letters(0), 66);
    }

    private static void blank() {
        of("THE PAGE is empty: how many letters it had.");
        MoleMaps x = new MoleMaps();
        due("3: blank() of none", x.blank(), 0);
        x.letters(Check.letters("014;"));
        due("3: blank()", x.blank(), 4);
        due("3: blank() again", x.blank(), 0);
        due("3: count(6)", x.count(6), 0);
        due("3: letters behind", x.letters('0'), 1);
        MoleMaps y = Check.mineOf(LINE);
        y.letters('z');
        due("3: blank() with a mine", y.blank(), 1);
        due("3: it keeps the mine", y.count(0), 3);
    }

    private static void faultOf(String text, int want) {
        MoleMaps x = new MoleMaps();
        Check.type(x, text);
        long before = x.digest();
        due("4: fault() of " + text, x.fault(), want);
        due("4: fault() of " + text + " again", x.fault(), want);
        due("4: digest() behind it", x.digest(), before);
        boolean whole = want == text.length() && x.mine() >= 0;
        due("5: whether " + text + " is a mine", whole ? 1 : 0, Model.isMine(text) ? 1 : 0);
    }

    private static void fault() {
        of("The place (from 0) of the first letter of THE PAGE that no MINE has there, behind those ahead of "
            + "it; how many letters it has, if there is none.");
        faultOf("", 0);
        faultOf("0", 1);
        faultOf("6", 1);
        faultOf("7", 0);
        faultOf("d", 0);
        faultOf(";", 0);
        faultOf("/", 0);
        faultOf("00", 1);
        faultOf("07", 1);
        faultOf("65", 2);
        faultOf("010", 2);
        faultOf("01d", 2);
        faultOf("01:", 2);
        faultOf("011", 3);
        faultOf("019", 3);
        faultOf("019d", 4);
        faultOf("019D", 3);
        faultOf("0199", 3);
        faultOf("019dd", 4);
        faultOf("019d,", 5);
        faultOf("019,", 4);
        faultOf("019,,", 4);
        faultOf("019,;", 4);
        faultOf("019;", 4);
        faultOf("019;;", 4);
        faultOf("019;0", 5);
        faultOf("019;7", 4);
        faultOf("019;00", 6);
        faultOf("019;0:", 5);
        faultOf("019;0/", 5);
        faultOf("019;09,", 6);
        faultOf("019;090", 6);
        faultOf("019;091", 7);
        faultOf("019;0919", 8);
        faultOf("019;09190", 8);
        faultOf("019;0919;", 8);
        faultOf("019;0919 ", 8);
        faultOf("019,108,019d;6050", 17);
        faultOf(LARGEST, 64);
        faultOf(LARGEST + "0", 64);
        faultOf(LARGEST.replace(";09", ",019;09"), 49);
        faultOf(LARGEST.replace("63", "69"), 64);
        faultOf(LARGEST.substring(0, 49), 49);
        faultOf(LARGEST.replace("609", "669"), 31);
    }

    private static void mine() {
        of("THE PAGE is read as THE MINE (another one is gone, with MEN; it is DAY, no GAS, minute 0): how "
            + "many GALLERIES; THE PAGE is empty then. STATE: it is none.");
        MoleMaps x = new MoleMaps();
        Check.type(x, "014;09");
        refused("5: one shaft", x, STATE, x::mine);
        due("5: the page stays", x.count(6), 6);
        x.letters(Check.letters("2"));
        refused("5: half a shaft", x, STATE, x::mine);
        x.letters(Check.letters("0"));
        due("5: two shafts", x.mine(), 1);
        due("5: the page is empty", x.count(6), 0);
        refused("5: an empty page", x, STATE, x::mine);
        due("5: the mine stays", x.count(0), 1);

        MoleMaps y = Check.mineOf(LINE);
        y.man(2, 3);
        y.man(0, 1);
        y.minutes(5);
        y.turn();
        y.door(1, false);
        y.doors(1, 0);
        y.image();
        Check.type(y, LINE);
        due("5: another mine", y.mine(), 3);
        due("5: men are gone", y.count(3), 0);
        refused("5: about(0, 0)", y, UNKNOWN, () -> y.about(0, 0));
        due("5: it is day", y.count(4), 0);
        due("5: minute 0", y.count(5), 0);
        due("5: no gas", y.knot(3, 3), 0);
        due("5: doors are open", y.gallery(1, 4), 1);
        due("5: by day", y.knot(0, 1), 108);
        due("5: nobody is out", y.man(2, 3), 0);
        due("5: he is not out", y.about(0, 2), 0);
        due("5: two were read", y.count(7), 2);
        due("5: doors() counts on", y.count(8), 1);
        due("5: the largest", Check.mineOf(LARGEST).count(0), 10);
        Check.type(y, "351;3045");
        due("5: a smaller one", y.mine(), 1);
        due("5: its knot", y.gallery(0, 0), 3);
        refused("5: a gallery of the old one", y, UNKNOWN, () -> y.gallery(1, 0));
        due("5: its doors", y.count(1), 0);
        due("5: its shafts", y.count(2), 2);
        due("5: no shaft of the old one", y.knot(0, 0), NONE);
    }

    private static void galleryIs(MoleMaps x, int gallery, int... want) {
        for (int what = 0; what < want.length; what++) {
            due("6: gallery(" + gallery + ", " + what + ")", x.gallery(gallery, what), want[what]);
        }
    }

    private static void gallery() {
        of("Of a GALLERY: what = 0, 1 its KNOTS (as told), 2 LENGTH, 3 whether it has a DOOR (1, 0), 4 whether "
            + "it is open, 5 the KNOT into which air FLOWS through it (NONE: it is STILL). UNKNOWN; OUTSIDE.");
        MoleMaps x = Check.mineOf(LINE);
        galleryIs(x, 0, 0, 1, 4, 0, 1, 1);
        galleryIs(x, 1, 1, 2, 2, 1, 1, 2);
        galleryIs(x, 2, 2, 3, 5, 0, 1, NONE);
        x.turn();
        galleryIs(x, 0, 0, 1, 4, 0, 1, 0);
        galleryIs(x, 1, 1, 2, 2, 1, 1, 1);
        x.door(1, false);
        galleryIs(x, 0, 0, 1, 4, 0, 1, NONE);
        galleryIs(x, 1, 1, 2, 2, 1, 0, NONE);
        for (int g : new int[] {-1, 3, 10, LEAST, MOST}) {
            refused("6: gallery " + g, x, UNKNOWN, () -> x.gallery(g, 0));
            refused("6: gallery " + g + " ahead of what", x, UNKNOWN, () -> x.gallery(g, 6));
        }
        for (int what : new int[] {-1, 6, LEAST, MOST}) {
            refused("6: what " + what, x, OUTSIDE, () -> x.gallery(0, what));
        }
        MoleMaps y = Check.mineOf("561;5068");
        galleryIs(y, 0, 5, 6, 1, 0, 1, 5);
        galleryIs(Check.mineOf("651d;5068"), 0, 6, 5, 1, 1, 1, 5);
        // Neither end can be come to from a SHAFT.
        galleryIs(Check.mineOf("561;0018"), 0, 5, 6, 1, 0, 1, NONE);
    }

    private static void knotIs(MoleMaps x, int knot, int... want) {
        for (int what = 0; what < want.length; what++) {
            due("7: knot(" + knot + ", " + what + ")", x.knot(knot, what), want[what]);
        }
    }

    private static void knot() {
        of("Of a KNOT: what = 0 DRAUGHT (NONE: no SHAFT), 1 HEIGHT (NONE: STILL), 2 whether it BREATHES (1, "
            + "0), 3 GAS. UNKNOWN (0 to 6; without a MINE, too); OUTSIDE.");
        MoleMaps x = Check.mineOf(LINE);
        knotIs(x, 0, 9, 108, 1, 0);
        knotIs(x, 1, NONE, 54, 1, 0);
        knotIs(x, 2, 0, 0, 1, 0);
        knotIs(x, 3, NONE, 0, 0, 0);
        knotIs(x, 4, NONE, NONE, 0, 0);
        x.minutes(2);
        knotIs(x, 1, NONE, 54, 1, 0);
        knotIs(x, 3, NONE, 0, 0, 2);
        knotIs(x, 6, NONE, NONE, 0, 2);
        x.turn();
        knotIs(x, 0, 9, 0, 1, 0);
        knotIs(x, 1, NONE, 54, 1, 0);
        knotIs(x, 2, 0, 108, 1, 0);
        for (int k : new int[] {-1, 7, LEAST, MOST}) {
            refused("7: knot " + k, x, UNKNOWN, () -> x.knot(k, 0));
            refused("7: knot " + k + " ahead of what", x, UNKNOWN, () -> x.knot(k, 4));
        }
        for (int what : new int[] {-1, 4, LEAST, MOST}) {
            refused("7: what " + what, x, OUTSIDE, () -> x.knot(0, what));
        }
        MoleMaps none = new MoleMaps();
        refused("7: without a mine", none, UNKNOWN, () -> none.knot(0, 0));
        refused("7: without a mine ahead of what", none, UNKNOWN, () -> none.knot(0, 4));
    }

    private static void knotHeights() {
        MoleMaps star = Check.mineOf("011,021,031,041,051;1120304050");
        knotIs(star, 0, NONE, 2, 1);
        knotIs(star, 1, 1, 12, 1);
        knotIs(star, 2, 0, 0, 1);
        star.turn();
        // 96 and four times 108, by five.
        knotIs(star, 0, NONE, 105, 1);
        MoleMaps far = Check.mineOf("011,121,239,341;0945");
        // 1 has 0 at one GALLERY; 2 has both at two; LENGTH counts for nothing.
        knotIs(far, 1, NONE, 108, 1);
        knotIs(far, 2, NONE, 84, 1);
        knotIs(far, 3, NONE, 60, 1);
        knotIs(far, 4, 5, 60, 0);
        // Two ways to the same SHAFT count it once.
        knotIs(Check.mineOf("011,021,131,231,341;0940"), 3, NONE, 0, 1);
        knotIs(Check.mineOf("011,021,131,231,341,451;0950"), 3, NONE, 54, 1);
        MoleMaps toZero = Check.mineOf("031,341,451,561;5466");
        knotIs(toZero, 0, NONE, 48, 0);
        knotIs(toZero, 3, NONE, 48, 0);
        knotIs(Check.mineOf("051,011;5466"), 1, NONE, 48, 0);
        // Six GALLERIES from one end to the other.
        knotIs(Check.mineOf("651,541,431,321,211,061;1900"), 4, NONE, 54, 1);
        // A SHAFT behind a SHAFT is not a nearest one.
        knotIs(Check.mineOf("011,121;1420"), 0, NONE, 48, 0);
        knotIs(Check.mineOf("561;0018"), 0, 0, 0, 0);
        knotIs(Check.mineOf("561;0018"), 5, NONE, NONE, 0);
    }

    private static void door() {
        of("A DOOR is opened or shut: whether it was open (1, 0). UNKNOWN; STATE: it has no DOOR.");
        MoleMaps x = Check.mineOf(LINE);
        due("8: opened, as it was", x.door(1, true), 1);
        due("8: shut", x.door(1, false), 1);
        due("8: it is shut", x.gallery(1, 4), 0);
        due("8: air changed", x.knot(1, 1), 108);
        due("8: nothing breathes", x.knot(0, 2), 0);
        due("8: shut again", x.door(1, false), 0);
        due("8: it stays shut", x.gallery(1, 4), 0);
        due("8: opened", x.door(1, true), 0);
        due("8: it is open", x.gallery(1, 4), 1);
        due("8: air came back", x.knot(1, 1), 54);
        for (int g : new int[] {-1, 3, 32, 33, LEAST, MOST}) {
            refused("8: gallery " + g, x, UNKNOWN, () -> x.door(g, false));
        }
        refused("8: no door", x, STATE, () -> x.door(0, false));
        refused("8: no door to open", x, STATE, () -> x.door(2, true));
        MoleMaps y = Check.mineOf(LARGEST);
        due("8: the last one", y.door(9, false), 1);
        due("8: of the others none", y.gallery(8, 4), 1);
        due("8: it alone", y.gallery(9, 4), 0);
    }

    private static void turn() {
        of("DAY becomes MOON, or MOON DAY: whether it is MOON then (1, 0). STATE: no MINE.");
        MoleMaps x = Check.mineOf(LINE);
        due("9: moon", x.turn(), 1);
        due("9: count(4)", x.count(4), 1);
        due("9: knot(2, 1)", x.knot(2, 1), 108);
        due("9: day", x.turn(), 0);
        due("9: count(4) by day", x.count(4), 0);
        due("9: knot(2, 1) by day", x.knot(2, 1), 0);
        MoleMaps none = new MoleMaps();
        refused("9: turn()", none, STATE, none::turn);
    }

    private static void man() {
        of("A MAN: his number. STATE: no MINE; OUTSIDE: kind; UNKNOWN: knot; FULL.");
        MoleMaps none = new MoleMaps();
        refused("10: no mine ahead of all", none, STATE, () -> none.man(5, 7));
        MoleMaps x = Check.mineOf(LINE);
        for (int kind : new int[] {-1, 5, LEAST, MOST}) {
            refused("10: kind " + kind, x, OUTSIDE, () -> x.man(kind, 0));
            refused("10: kind ahead of knot", x, OUTSIDE, () -> x.man(kind, 7));
        }
        for (int knot : new int[] {-1, 7, LEAST, MOST}) {
            refused("10: knot " + knot, x, UNKNOWN, () -> x.man(0, knot));
        }
        for (int i = 0; i < 6; i++) {
            due("10: man " + i, x.man(i % 5, i + 1), i);
        }
        for (int i = 0; i < 6; i++) {
            due("10: kind of " + i, x.about(i, 0), i % 5);
            due("10: knot of " + i, x.about(i, 1), i + 1);
        }
        refused("10: a seventh", x, FULL, () -> x.man(0, 0));
        refused("10: kind ahead of full", x, OUTSIDE, () -> x.man(5, 0));
        refused("10: knot ahead of full", x, UNKNOWN, () -> x.man(0, 7));
        due("10: six", x.count(3), 6);
    }

    private static void about() {
        of("Of a MAN: what = 0 KIND, 1 his KNOT, 2 whether he is OUT (1, 0), 3 how much GAS he BEARS. UNKNOWN; "
            + "OUTSIDE.");
        MoleMaps x = Check.mineOf(LINE);
        int[] bears = {4, 4, 1, 2, 6};
        for (int kind = 0; kind < 5; kind++) {
            x.man(kind, 3);
            due("11: kind", x.about(kind, 0), kind);
            due("11: knot", x.about(kind, 1), 3);
            due("11: out", x.about(kind, 2), 0);
            due("11: bears", x.about(kind, 3), bears[kind]);
        }
        x.minutes(2);
        due("11: the canary is out", x.about(2, 2), 1);
        due("11: the boy is not", x.about(3, 2), 0);
        due("11: what it bears stays", x.about(2, 3), 1);
        for (int man : new int[] {-1, 5, 6, LEAST, MOST}) {
            refused("11: man " + man, x, UNKNOWN, () -> x.about(man, 0));
            refused("11: man ahead of what", x, UNKNOWN, () -> x.about(man, 4));
        }
        for (int what : new int[] {-1, 4, LEAST, MOST}) {
            refused("11: what " + what, x, OUTSIDE, () -> x.about(0, what));
        }
    }

    private static void as() {
        of("A MAN taken as a KIND: his own number, not that of the KIND; NONE: he is none such (the cast "
            + "fails). UNKNOWN; OUTSIDE.");
        MoleMaps x = Check.mineOf(LINE);
        // Numbers unlike the KINDS: 0 CHIEF, 1 MAN, 2 NOSE, 3 CANARY, 4 BOY.
        int[] kinds = {4, 0, 1, 2, 3};
        for (int kind : kinds) {
            x.man(kind, 0);
        }
        int[][] is = {{0, 0, NONE, NONE, 0}, {1, NONE, NONE, NONE, NONE}, {2, 2, NONE, NONE, NONE},
            {3, NONE, 3, NONE, NONE}, {4, NONE, NONE, 4, NONE}};
        for (int man = 0; man < 5; man++) {
            for (int kind = 0; kind < 5; kind++) {
                due("12: as(" + man + ", " + kind + ")", x.as(man, kind), is[man][kind]);
            }
        }
        for (int man : new int[] {-1, 5, LEAST, MOST}) {
            refused("12: man " + man, x, UNKNOWN, () -> x.as(man, 0));
            refused("12: man ahead of kind", x, UNKNOWN, () -> x.as(man, 5));
        }
        for (int kind : new int[] {-1, 5, LEAST, MOST}) {
            refused("12: kind " + kind, x, OUTSIDE, () -> x.as(0, kind));
        }
    }

    private static void walk() {
        of("He WALKS a GALLERY: the KNOT where he is then. UNKNOWN: man, gallery; STATE: he is OUT, it is not "
            + "at his KNOT, or it is shut for him.");
        MoleMaps x = Check.mineOf(LINE);
        x.man(0, 0);
        x.man(3, 2);
        x.man(2, 3);
        due("13: there", x.walk(0, 0), 1);
        due("13: he is there", x.about(0, 1), 1);
        due("13: through a door", x.walk(0, 1), 2);
        due("13: and back", x.walk(0, 1), 1);
        due("13: no minute", x.count(5), 0);
        refused("13: not at his knot", x, STATE, () -> x.walk(0, 2));
        x.door(1, false);
        refused("13: shut for a man", x, STATE, () -> x.walk(0, 1));
        due("13: a boy walks it", x.walk(1, 1), 1);
        due("13: and a way without a door", x.walk(1, 0), 0);
        refused("13: not at the boy's knot", x, STATE, () -> x.walk(1, 1));
        x.minutes(2);
        due("13: the canary is out", x.about(2, 2), 1);
        refused("13: he is out", x, STATE, () -> x.walk(2, 2));
        for (int man : new int[] {-1, 3, LEAST, MOST}) {
            refused("13: man " + man, x, UNKNOWN, () -> x.walk(man, 0));
        }
        for (int gallery : new int[] {-1, 3, LEAST, MOST}) {
            refused("13: gallery " + gallery, x, UNKNOWN, () -> x.walk(0, gallery));
            refused("13: gallery ahead of out", x, UNKNOWN, () -> x.walk(2, gallery));
        }
        MoleMaps y = Check.mineOf("011d,011;0010");
        for (int kind = 0; kind < 5; kind++) {
            y.man(kind, 0);
        }
        y.door(0, false);
        for (int man = 0; man < 5; man++) {
            if (man == 3) {
                due("13: a boy alone", y.walk(man, 0), 1);
            } else {
                int shut = man;
                refused("13: shut for " + man, y, STATE, () -> y.walk(shut, 0));
            }
        }
    }

    private static void minutes() {
        of("So many minutes go by: how many came to be OUT. OUTSIDE: minutes (1 to 60); STATE: no MINE.");
        MoleMaps none = new MoleMaps();
        refused("14: outside ahead of state", none, OUTSIDE, () -> none.minutes(0));
        refused("14: no mine", none, STATE, () -> none.minutes(60));
        MoleMaps x = Check.mineOf(LINE);
        for (int n : new int[] {0, -1, 61, LEAST, MOST}) {
            refused("14: minutes(" + n + ")", x, OUTSIDE, () -> x.minutes(n));
        }
        for (int kind = 0; kind < 5; kind++) {
            x.man(kind, 3);
        }
        x.man(0, 1);
        // GAS in 3 is 1, 2, ..: each is OUT when it is more than he bears.
        int[] out = {0, 1, 1, 0, 2, 0, 1, 0};
        for (int minute = 1; minute <= 8; minute++) {
            due("14: minute " + minute, x.minutes(1), out[minute - 1]);
            due("14: gas behind " + minute, x.knot(3, 3), minute);
        }
        due("14: who breathes is not out", x.about(5, 2), 0);
        due("14: sixty", x.minutes(60), 0);
        due("14: gas is nine at most", x.knot(3, 3), 9);
        due("14: count(5)", x.count(5), 68);
        x.door(1, false);
        x.minutes(3);
        due("14: it gathers where it breathed", x.knot(1, 3), 3);
        x.door(1, true);
        due("14: it stays until the minute ends", x.knot(1, 3), 3);
        x.minutes(1);
        due("14: it breathes again", x.knot(1, 3), 0);
        due("14: out he stays", x.about(2, 2), 1);
        MoleMaps y = Check.mineOf(LINE);
        y.man(2, 3);
        y.man(2, 4);
        y.minutes(1);
        y.walk(0, 2);
        // He left in time; the other one did not.
        due("14: both at once", y.minutes(5), 1);
        due("14: in time", y.about(0, 2), 0);
    }

    private static void smelt() {
        of("SMELT at a KNOT, of a FIRE in another one (0: there); NONE: never. STATE; UNKNOWN: fire, knot.");
        MoleMaps none = new MoleMaps();
        refused("15: no mine ahead of all", none, STATE, () -> none.smelt(7, 7));
        MoleMaps x = Check.mineOf(LINE);
        int[][] want = {{0, 4, 6, NONE, NONE, NONE, NONE}, {NONE, 0, 2, NONE, NONE, NONE, NONE},
            {NONE, NONE, 0, NONE, NONE, NONE, NONE}, {NONE, NONE, NONE, 0, NONE, NONE, NONE}};
        for (int fire = 0; fire < want.length; fire++) {
            for (int knot = 0; knot < 7; knot++) {
                due("15: smelt(" + fire + ", " + knot + ")", x.smelt(fire, knot), want[fire][knot]);
            }
        }
        x.turn();
        due("15: by moon", x.smelt(2, 0), 6);
        due("15: not by moon", x.smelt(0, 2), NONE);
        x.door(1, false);
        due("15: behind a door", x.smelt(2, 0), NONE);
        due("15: of two ways", Check.mineOf("029,011,122;0920").smelt(0, 2), 3);
        due("15: of two galleries", Check.mineOf("019,012,013;0910").smelt(0, 1), 2);
        due("15: the longest", Check.mineOf("019,129;0910").smelt(0, 1), 9);
        for (int knot : new int[] {-1, 7, LEAST, MOST}) {
            refused("15: fire " + knot, x, UNKNOWN, () -> x.smelt(knot, 0));
            refused("15: knot " + knot, x, UNKNOWN, () -> x.smelt(0, knot));
        }
    }

    private static void doorsAre(MoleMaps x, int set, int few, int bits) {
        due("16: doors(" + set + ", 0)", x.doors(set, 0), few);
        due("16: doors(" + set + ", 1)", x.doors(set, 1), bits);
    }

    private static void doors() {
        of("DOORS: what = 0 how few, 1 which GALLERIES, as bits; NONE: by none. STATE; OUTSIDE: set (bits of "
            + "KNOTS), what; STATE: doors() was done 40 times ever (refusals do not count, all else does).");
        MoleMaps x = Check.mineOf(LINE);
        doorsAre(x, 0, 0, 0);
        doorsAre(x, 7, 0, 0);
        doorsAre(x, 8, NONE, NONE);
        doorsAre(x, 127, NONE, NONE);
        x.door(1, false);
        long before = x.digest();
        due("16: fewest", x.doors(7, 0), 1);
        due("16: which", x.doors(7, 1), 2);
        due("16: it is counted", x.count(8), 10);
        due("16: the door stays shut", x.gallery(1, 4), 0);
        due("16: air stays", x.knot(0, 2), 0);
        due("16: nothing else changed", x.digest(), before + 2);

        MoleMaps fewer = Check.mineOf("021d,211d,011d;0910");
        for (int g = 0; g < 3; g++) {
            fewer.door(g, false);
        }
        doorsAre(fewer, 1, 1, 4);
        doorsAre(fewer, 4, 2, 3);
        MoleMaps alike = Check.mineOf("012d,013d;0910");
        alike.door(0, false);
        alike.door(1, false);
        doorsAre(alike, 3, 1, 1);
        // Shut, one of them lets its ends be unlike.
        MoleMaps shut = Check.mineOf("201,211d,401,411,231,341;0910");
        doorsAre(shut, 8, 1, 2);
        doorsAre(Check.mineOf("011d;0910"), 3, 0, 0);
        MoleMaps last = Check.mineOf("341,341,341,341,341,341,341,341,341,011d;0910");
        last.door(9, false);
        doorsAre(last, 1, 1, 512);
    }

    private static void doorsForty() {
        MoleMaps none = new MoleMaps();
        refused("16: no mine ahead of all", none, STATE, () -> none.doors(128, 2));
        MoleMaps x = Check.mineOf(LINE);
        for (int set : new int[] {-1, 128, LEAST, MOST}) {
            refused("16: set " + set, x, OUTSIDE, () -> x.doors(set, 0));
        }
        for (int what : new int[] {-1, 2, LEAST, MOST}) {
            refused("16: what " + what, x, OUTSIDE, () -> x.doors(0, what));
        }
        due("16: refusals do not count", x.count(8), 0);
        for (int i = 0; i < 20; i++) {
            due("16: none counts, too", x.doors(8, i % 2), NONE);
        }
        Check.type(x, LINE);
        x.mine();
        x.image();
        for (int i = 20; i < 40; i++) {
            due("16: done " + i, x.count(8), i);
            due("16: and", x.doors(1, 0), 0);
        }
        refused("16: the 41st", x, STATE, () -> x.doors(1, 0));
        refused("16: outside ahead of it", x, OUTSIDE, () -> x.doors(128, 0));
        x.restore();
        refused("16: behind restore()", x, STATE, () -> x.doors(1, 0));
        Check.type(x, LINE);
        x.mine();
        refused("16: ever", x, STATE, () -> x.doors(1, 0));
        due("16: forty", x.count(8), 40);
    }

    private static void wayOut() {
        of("WAY OUT (0: it is in a SHAFT); NONE. STATE; UNKNOWN.");
        MoleMaps none = new MoleMaps();
        refused("17: no mine ahead of all", none, STATE, () -> none.wayOut(7));
        MoleMaps x = Check.mineOf("011,121,231,341;0945");
        int[] day = {0, 1, NONE, NONE, 0, NONE, NONE};
        // 0 and 1 are alike, so that no air flows into 1.
        day[1] = NONE;
        for (int k = 0; k < 7; k++) {
            due("17: wayOut(" + k + ")", x.wayOut(k), day[k]);
        }
        MoleMaps line = Check.mineOf(LINE);
        due("17: one", line.wayOut(1), 1);
        due("17: it is in a shaft", line.wayOut(2), 0);
        due("17: still", line.wayOut(3), NONE);
        line.turn();
        due("17: one by moon", line.wayOut(1), 1);
        // 1 is as high as 0, so that none flows on to it, though 0 itself lies beside 2.
        due("17: the least leads nowhere", Check.mineOf("011,121,021,231;0933").wayOut(2), NONE);
        // 5 is fed by 4 alone, 4 by the SHAFT 0.
        MoleMaps two = Check.mineOf("041,141,451,521,361;091020");
        due("17: height of 4", two.knot(4, 1), 54);
        due("17: height of 5", two.knot(5, 1), 0);
        due("17: two galleries", two.wayOut(5), 2);
        // Of the two into 4 the least leads to 6, where none flows in.
        MoleMaps stuck = Check.mineOf("618,242,468,145;1827");
        due("17: the least gallery", stuck.wayOut(4), NONE);
        due("17: it alone", Check.mineOf("145,618,242,468;1827").wayOut(4), 1);
        for (int k : new int[] {-1, 7, LEAST, MOST}) {
            refused("17: knot " + k, line, UNKNOWN, () -> line.wayOut(k));
        }
    }

    private static void fire() {
        of("FIRE, as bits. STATE; OUTSIDE: minutes (0 to 60), set (bits of MEN, NOSES alone).");
        MoleMaps none = new MoleMaps();
        refused("18: no mine ahead of all", none, STATE, () -> none.fire(61, 1));
        MoleMaps x = Check.mineOf(LINE);
        due("18: no noses", x.fire(5, 0), 127);
        x.man(0, 2);
        due("18: no noses among men", x.fire(5, 0), 127);
        x.man(1, 1);
        x.man(4, 2);
        // The NOSE in 1 smells 0 behind 4, the CHIEF in 2 smells 0 behind 6, 1 behind 2.
        due("18: neither", x.fire(60, 0), 120);
        due("18: both behind 1", x.fire(1, 6), 0);
        due("18: both behind 2", x.fire(2, 6), 2);
        due("18: both behind 5", x.fire(5, 6), 2);
        due("18: both behind 6", x.fire(6, 6), 3);
        due("18: the nose alone, behind 5", x.fire(5, 2), 1);
        due("18: the nose alone, behind 4", x.fire(4, 2), 1);
        due("18: the nose alone, behind 3", x.fire(3, 2), 0);
        due("18: the nose alone, behind 0", x.fire(0, 2), 2);
        due("18: the chief alone", x.fire(0, 4), 4);
        due("18: neither behind 0", x.fire(0, 0), 121);
        x.man(1, 4);
        x.minutes(6);
        due("18: a nose is out", x.about(3, 2), 1);
        due("18: it smells still", x.fire(9, 8), 16);
        due("18: and counts still", x.fire(60, 0), 104);
        for (int minutes : new int[] {-1, 61, LEAST, MOST}) {
            refused("18: minutes " + minutes, x, OUTSIDE, () -> x.fire(minutes, 0));
        }
        for (int set : new int[] {1, 3, 16, 32, 64, -1, LEAST, MOST}) {
            refused("18: set " + set, x, OUTSIDE, () -> x.fire(5, set));
        }
        MoleMaps kinds = Check.mineOf(LINE);
        for (int kind = 0; kind < 5; kind++) {
            kinds.man(kind, 4);
            int set = 1 << kind;
            // The CHIEF comes last, to where the NOSE of whom nothing is told smells as much.
            due("18: of kind " + kind, kinds.fire(1, set), kind == 1 ? 16 : kind == 4 ? 0 : OUTSIDE);
        }
        due("18: a nose and a chief at one knot", kinds.fire(1, 18), 16);
        MoleMaps first = Check.mineOf(LINE);
        first.man(1, 1);
        due("18: of man 0", first.fire(4, 1), 3);
        due("18: not of man 0", first.fire(4, 0), 124);
    }

    private static void next() {
        of("NEXT. STATE; OUTSIDE, as fire().");
        MoleMaps none = new MoleMaps();
        refused("19: no mine ahead of all", none, STATE, () -> none.next(61, 1));
        MoleMaps x = Check.mineOf(LINE);
        // Of 7 KNOTS a NOSE in 2 smells 0 (behind 6), 1 and 2 itself: 4 are left at worst.
        due("19: behind 60", x.next(60, 0), 2);
        due("19: behind 6", x.next(6, 0), 2);
        // Behind 5 it is 1 and 2 in 2, 0 and 1 in 1: of like ones the least.
        due("19: behind 5", x.next(5, 0), 1);
        due("19: behind 2", x.next(2, 0), 2);
        due("19: behind 0", x.next(0, 0), 0);
        x.man(0, 0);
        x.man(1, 2);
        due("19: of 0 and 1 the least", x.next(6, 2), 0);
        due("19: nothing there", x.next(6, 0), 3);
        x.man(4, 1);
        due("19: one alone", x.next(5, 2), 0);
        due("19: no knot at all", x.next(1, 6), 0);
        for (int minutes : new int[] {-1, 61, LEAST, MOST}) {
            refused("19: minutes " + minutes, x, OUTSIDE, () -> x.next(minutes, 0));
        }
        for (int set : new int[] {1, 3, 8, 64, -1, LEAST, MOST}) {
            refused("19: set " + set, x, OUTSIDE, () -> x.next(5, set));
        }
    }

    private static void rescueIs(MoleMaps x, int from, int set, int risk, int... order) {
        due("20: rescue(" + from + ", " + set + ", 0)", x.rescue(from, set, 0), risk);
        for (int i = 0; i < 5; i++) {
            int want = i < order.length ? order[i] : NONE;
            due("20: rescue(" + from + ", " + set + ", 10 + " + i + ")", x.rescue(from, set, 10 + i), want);
        }
    }

    private static void rescue() {
        of("RESCUE: what = 0 the least risk, 10 and i the so-manieth KNOT (NONE); NONE: some can not be come "
            + "to. STATE; UNKNOWN: from; OUTSIDE: set (bits of KNOTS, 5 at most), what (0, 10 to 14).");
        MoleMaps none = new MoleMaps();
        refused("20: no mine ahead of all", none, STATE, () -> none.rescue(7, 128, 1));
        MoleMaps x = Check.mineOf(LINE);
        rescueIs(x, 1, 0, 0);
        rescueIs(x, 1, 2, 0, 1);
        rescueIs(x, 0, 14, 4 + 6 + 11, 1, 2, 3);
        // From 1: 2 at 2, 3 at 7, then 0 at 18; or 0 first at 4, 2 at 10, 3 at 15.
        rescueIs(x, 1, 13, 27, 2, 3, 0);
        rescueIs(x, 1, 5, 2 + 8, 2, 0);
        rescueIs(x, 0, 16, NONE, NONE);
        rescueIs(x, 4, 16, 0, 4);
        rescueIs(x, 4, 1, NONE, NONE);
        x.minutes(9);
        // 3 holds 9: it counts tenfold.
        rescueIs(x, 2, 10, 50 + 12, 3, 1);
        x.door(1, false);
        rescueIs(x, 0, 4, NONE, NONE);
        rescueIs(x, 0, 3, 4, 0, 1);

        MoleMaps star = Check.mineOf("011,021,031,041,051;1122334455");
        rescueIs(star, 0, 62, 1 + 3 + 5 + 7 + 9, 1, 2, 3, 4, 5);
        star.turn();
        rescueIs(star, 1, 60, 2 + 4 + 6 + 8, 2, 3, 4, 5);
        // As long a way either round: the first by numbers.
        rescueIs(Check.mineOf("012,022;1120"), 0, 6, 2 + 6, 1, 2);
        rescueIs(Check.mineOf("013,022;1120"), 0, 6, 2 + 7, 2, 1);
        // A way through a third KNOT is shorter than the gallery itself.
        rescueIs(Check.mineOf("019,021,211;0010"), 0, 2, 2, 1);
        rescueOfStars();
        refusedRescues(star);
    }

    /** A star is come to by its rays' lengths: whatever these are, each order is the best of some star. */
    private static void rescueOfStars() {
        for (int coded = 0; coded < 3125; coded++) {
            int[] length = new int[6];
            int[] order = new int[5];
            StringBuilder rays = new StringBuilder();
            for (int knot = 1, rest = coded; knot <= 5; knot++, rest /= 5) {
                length[knot] = 1 + rest % 5;
                order[length[knot] - 1] = knot;
                rays.append(knot == 1 ? "" : ",").append(0).append(knot).append(length[knot]);
            }
            boolean allUnlike = true;
            for (int knot : order) {
                allUnlike &= knot != 0;
            }
            if (allUnlike) {
                rescueIs(Check.mineOf(rays + ";1020"), 0, 62, 1 + 4 + 9 + 16 + 25, order);
            }
        }
    }

    private static void refusedRescues(MoleMaps x) {
        for (int from : new int[] {-1, 7, LEAST, MOST}) {
            refused("20: from " + from, x, UNKNOWN, () -> x.rescue(from, 0, 0));
            refused("20: from ahead of the rest", x, UNKNOWN, () -> x.rescue(from, 128, 1));
        }
        for (int set : new int[] {-1, 63, 126, 127, 128, LEAST, MOST}) {
            refused("20: set " + set, x, OUTSIDE, () -> x.rescue(0, set, 0));
        }
        for (int what : new int[] {-1, 1, 9, 15, LEAST, LEAST + 9, LEAST + 10, LEAST + 12, MOST}) {
            refused("20: what " + what, x, OUTSIDE, () -> x.rescue(0, 3, what));
        }
        due("20: five of seven", x.rescue(6, 64, 0), 0);
    }

    private static int wouldBe(int seed) {
        return (int) ((1103515245L * seed + 12345L) & MOST);
    }

    private static void walks() {
        of("WALKS: what = 0 how many are OUT then, 1 the KNOT of MAN 0 (NONE), 2 GAS of all KNOTS together, 3 "
            + "the SEED then. STATE; OUTSIDE: times (1 to 60), seed (0 at least), what.");
        MoleMaps none = new MoleMaps();
        refused("21: no mine ahead of all", none, STATE, () -> none.walks(0, -1, 4));
        MoleMaps x = Check.mineOf("014,122d,015;0920");
        x.man(3, 0);
        x.man(2, 1);
        int first = wouldBe(7);
        int second = wouldBe(first);
        int walker = (first >> 16) % 2;
        long before = x.digest();
        due("21: a man and a gallery were drawn", x.walks(1, 7, 3), second);
        due("21: the boy walks", walker, 0);
        due("21: to 1 either way", x.walks(1, 7, 1), 1);
        due("21: nothing is so", x.digest(), before);
        due("21: image() is not touched", x.restore(), STATE);

        MoleMaps boy = Check.mineOf("015d,565;0910");
        boy.man(3, 0);
        due("21: with the door open", boy.walks(1, 1, 1), 1);
        due("21: two draws", boy.walks(1, 1, 3), wouldBe(wouldBe(1)));
        boy.door(0, false);
        due("21: a boy walks open ones alone", boy.walks(1, 1, 1), 0);
        due("21: nothing is drawn of none", boy.walks(1, 1, 3), wouldBe(1));
        boy.man(2, 4);
        due("21: gas gathers, minute by minute", boy.walks(3, 5, 2), 21);
        due("21: the boy and the canary", boy.walks(3, 5, 0), 2);
        boy.minutes(2);
        due("21: who is out is counted", boy.walks(1, 5, 0), 2);
        due("21: gas goes on from what it is", boy.walks(1, 5, 2), 21);
        due("21: nine at most", boy.walks(60, 5, 2), 63);
        due("21: it was not so", boy.knot(0, 3), 2);

        MoleMaps out = Check.mineOf("015,565;2939");
        out.man(2, 0);
        out.minutes(2);
        due("21: who is out walks not", out.walks(1, 3, 1), 0);
        due("21: but is drawn", out.walks(1, 3, 3), wouldBe(3));
        due("21: the highest seed", out.walks(1, MOST, 3), wouldBe(MOST));
        due("21: the least seed", out.walks(1, 0, 3), 12345);
        for (int times : new int[] {0, -1, 61, LEAST, MOST}) {
            refused("21: times " + times, x, OUTSIDE, () -> x.walks(times, 0, 0));
        }
        refused("21: seed -1", x, OUTSIDE, () -> x.walks(1, -1, 0));
        refused("21: least seed", x, OUTSIDE, () -> x.walks(1, LEAST, 0));
        for (int what : new int[] {-1, 4, LEAST, MOST}) {
            refused("21: what " + what, x, OUTSIDE, () -> x.walks(1, 0, what));
        }
    }

    private static void walksByDraw() {
        MoleMaps x = Check.mineOf("011d,021,031,041,051,061,311;1920");
        x.man(0, 0);
        for (int seed = 0; seed < 200; seed++) {
            int gallery = (wouldBe(wouldBe(seed)) >> 16) % 6;
            due("21: a gallery by a draw, " + seed, x.walks(1, seed, 1), gallery + 1);
        }
        x.door(0, false);
        for (int seed = 0; seed < 200; seed++) {
            int gallery = (wouldBe(wouldBe(seed)) >> 16) % 5;
            due("21: of the open ones by a draw, " + seed, x.walks(1, seed, 1), gallery + 2);
        }
        MoleMaps y = Check.mineOf("011;1920");
        for (int men = 1; men <= 6; men++) {
            y.man(4, 0);
            for (int seed = 300; seed < 400; seed++) {
                boolean his = (wouldBe(seed) >> 16) % men == 0;
                due("21: a man by a draw of " + men + ", " + seed, y.walks(1, seed, 1), his ? 1 : 0);
                due("21: of one it is drawn, too", y.walks(1, seed, 3), wouldBe(wouldBe(seed)));
            }
        }
    }

    private static void walksOfNobody() {
        MoleMaps x = Check.mineOf(LINE);
        due("21: nobody is out", x.walks(60, 9, 0), 0);
        due("21: no man 0", x.walks(1, 9, 1), NONE);
        due("21: a minute goes by all the same", x.walks(2, 9, 2), 8);
        due("21: nothing is drawn", x.walks(60, 9, 3), 9);
    }

    private static void image() {
        of("An IMAGE is kept (one; the latest): how many minutes have gone. STATE: no MINE.");
        MoleMaps none = new MoleMaps();
        refused("22: no mine", none, STATE, none::image);
        refused("22: none was kept", none, STATE, none::restore);
        MoleMaps x = Check.mineOf(LINE);
        due("22: at once", x.image(), 0);
        x.minutes(7);
        long before = x.digest();
        due("22: behind 7", x.image(), 7);
        due("22: it changes nothing", x.digest(), before);
        x.minutes(2);
        due("22: the latest", x.restore(), 7);
    }

    private static void restore() {
        of("It goes on from the IMAGE: how many minutes have gone. STATE: none was kept, or there is another "
            + "MINE, or MEN came, since.");
        MoleMaps x = Check.mineOf(LINE);
        x.man(0, 1);
        x.man(2, 3);
        x.minutes(1);
        x.turn();
        x.door(1, false);
        long kept = x.digest();
        due("23: image()", x.image(), 1);
        x.door(1, true);
        x.turn();
        x.walk(0, 0);
        due("23: the canary is out", x.minutes(4), 1);
        due("23: restore()", x.restore(), 1);
        due("23: all is as it was", x.digest(), kept);
        due("23: the door", x.gallery(1, 4), 0);
        due("23: the moon", x.count(4), 1);
        due("23: gas", x.knot(3, 3), 1);
        due("23: where he is", x.about(0, 1), 1);
        due("23: who is out", x.about(1, 2), 0);
        due("23: minutes", x.count(5), 1);
        due("23: air", x.knot(2, 1), 108);
        x.minutes(9);
        due("23: once more", x.restore(), 1);
        due("23: and as it was", x.digest(), kept);
        x.letters('z');
        x.doors(1, 0);
        x.restore();
        due("23: the page is not kept", x.count(6), 1);
        due("23: nor how often doors() was done", x.count(8), 1);
    }

    private static void restoreRefused() {
        MoleMaps none = new MoleMaps();
        refused("23: a new object", none, STATE, none::restore);
        MoleMaps x = Check.mineOf(LINE);
        refused("23: none was kept", x, STATE, x::restore);
        x.image();
        refused("23: a man refused", x, OUTSIDE, () -> x.man(5, 0));
        refused("23: a mine refused", x, STATE, x::mine);
        due("23: none came", x.restore(), 0);
        x.man(0, 0);
        refused("23: men came", x, STATE, x::restore);
        x.image();
        x.minutes(3);
        due("23: behind a new image", x.restore(), 0);
        Check.type(x, LINE);
        x.mine();
        x.man(0, 0);
        refused("23: another mine, of like text and men", x, STATE, x::restore);
        x.image();
        due("23: its own image", x.restore(), 0);
    }

    private static void count() {
        of("How many: 0 GALLERIES, 1 DOORS, 2 SHAFTS, 3 MEN, 4 whether it is MOON (1, 0), 5 minutes that have "
            + "gone, 6 letters of THE PAGE, 7 how often a MINE was read, 8 how often doors() was done. OUTSIDE.");
        MoleMaps x = Check.mineOf(LINE);
        x.man(0, 0);
        x.man(0, 0);
        x.minutes(9);
        x.turn();
        x.door(1, false);
        x.letters(Check.letters("abcd"));
        for (int i = 0; i < 5; i++) {
            x.doors(0, 0);
        }
        int[] want = {3, 1, 2, 2, 1, 9, 4, 1, 5};
        for (int what = 0; what < want.length; what++) {
            due("24: count(" + what + ")", x.count(what), want[what]);
        }
        for (int what : new int[] {-1, 9, LEAST, MOST}) {
            refused("24: what " + what, x, OUTSIDE, () -> x.count(what));
        }
        MoleMaps y = Check.mineOf(LARGEST);
        due("24: ten galleries", y.count(0), 10);
        due("24: ten doors", y.count(1), 10);
        due("24: seven shafts", y.count(2), 7);
    }

    private static long after(long h, long... numbers) {
        long all = h;
        for (long n : numbers) {
            all = 31 * all + n;
        }
        return all;
    }

    private static void digest() {
        of("h is 659, then for each of these numbers, in order, 31 times h, and it (as longs, wrapping): of "
            + "each GALLERY what gallery() tells for 0 to 5; with a MINE of each KNOT what knot() tells for 0 to "
            + "3, SMELT of a FIRE in it at KNOT 0, WAY OUT; of each MAN what about() tells for 0 to 3; letters of "
            + "THE PAGE, each by its code; what count() tells for 0 to 8.");
        MoleMaps x = new MoleMaps();
        due("25: of nothing", x.digest(), after(659, 0, 0, 0, 0, 0, 0, 0, 0, 0));
        x.letters(Check.letters("z~"));
        due("25: of a page", x.digest(), after(659, 'z', '~', 0, 0, 0, 0, 0, 0, 2, 0, 0));
        MoleMaps y = Check.mineOf("014d;0910");
        y.man(4, 1);
        y.minutes(3);
        y.letters('!');
        y.doors(3, 0);
        long h = after(659, 0, 1, 4, 1, 1, 1);
        h = after(h, 9, 108, 1, 0, 0, 0);
        h = after(h, 0, 0, 1, 0, NONE, 0);
        for (int knot = 2; knot < 7; knot++) {
            h = after(h, NONE, NONE, 0, 3, NONE, NONE);
        }
        h = after(h, 4, 1, 0, 6);
        h = after(h, '!');
        h = after(h, 1, 1, 2, 1, 0, 3, 1, 1, 1);
        due("25: of all", y.digest(), h);
        due("25: it changes nothing", y.digest(), h);
        MoleMaps z = Check.mineOf("014,125;1920");
        long g = after(659, 0, 1, 4, 0, 1, NONE, 1, 2, 5, 0, 1, 2);
        g = after(g, NONE, 108, 0, 0, 0, NONE, 9, 108, 1, 0, NONE, 0, 0, 0, 1, 0, NONE, 0);
        for (int knot = 3; knot < 7; knot++) {
            g = after(g, NONE, NONE, 0, 0, NONE, NONE);
        }
        due("25: without men", z.digest(), after(g, 2, 0, 2, 0, 0, 0, 0, 1, 0));
    }
}
