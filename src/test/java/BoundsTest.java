/**
 * The promises' own sentences, one by one: of each that names a bound, the last value within it and the first beyond
 * it, the empty and the full case, and what wraps around. What is refused, and in which order, RefusalsTest tells.
 */
public final class BoundsTest {
    private static final int NONE = -1, UNKNOWN = -101, OUTSIDE = -102, STATE = -103, FULL = -104;
    private static final int LEAST = Integer.MIN_VALUE, MOST = Integer.MAX_VALUE;
    /** 0 is high by DAY, 2 is low, 1 lies between; 3 lies behind 2, 4 to 6 nowhere. */
    private static final String LINE = "014,122d,235;0920";
    private static final String LARGEST = "019d,129d,239d,349d,459d,569d,609d,029d,139d,249d;09182736455463";

    private static final Check check = new Check();

    public static void main(String[] args) {
        ofUse();
        ofLetters();
        ofFault();
        ofMine();
        ofGalleriesAndKnots();
        ofDoorAndTurn();
        ofMen();
        ofMinutes();
        ofSmelt();
        ofDoors();
        ofFireAndNext();
        ofRescue();
        ofWalks();
        ofImages();
        ofCount();
        ofDigest();
        check.end("BoundsTest");
    }

    private static void of(String sentence) {
        check.of(sentence);
    }

    private static void due(String call, long got, long want) {
        check.due(call, got, want);
    }

    // ---- of all

    private static void ofUse() {
        noMine();
        whatWouldBeWithoutAMine();
        fiveHundredAndTwelveCalls();
    }

    private static void noMine() {
        of("No MINE.");
        MoleMaps x = new MoleMaps();
        for (int what = 0; what <= 8; what++) {
            due("count(" + what + ")", x.count(what), 0);
        }
        due("fault()", x.fault(), 0);
        due("blank()", x.blank(), 0);
        due("digest()", x.digest(), digestOf(0, 0, 0, 0, 0, 0, 0, 0, 0));
    }

    private static void whatWouldBeWithoutAMine() {
        of("---- what would be (STATE: no MINE).");
        MoleMaps x = new MoleMaps();
        Check.type(x, LINE);
        for (int number : new int[] {LEAST, -1, 0, 1, 7, 10, 128, MOST}) {
            due("smelt()", x.smelt(number, number), STATE);
            due("doors()", x.doors(number, number), STATE);
            due("wayOut()", x.wayOut(number), STATE);
            due("fire()", x.fire(number, number), STATE);
            due("next()", x.next(number, number), STATE);
            due("rescue()", x.rescue(number, number, number), STATE);
            due("walks()", x.walks(number, number, number), STATE);
        }
        due("nothing was done", x.count(8), 0);
        due("a mine", x.mine(), 3);
        due("smelt()", x.smelt(0, 1), 4);
        due("doors()", x.doors(1, 0), 0);
        due("wayOut()", x.wayOut(1), 1);
        due("fire()", x.fire(1, 0), 127);
        due("next()", x.next(0, 0), 0);
        due("rescue()", x.rescue(1, 1, 0), 4);
        due("walks()", x.walks(1, 1, 3), 1);
    }

    private static void fiveHundredAndTwelveCalls() {
        of("An object is used for at most 512 calls after it has been made; what later calls answer is free.");
        MoleMaps x = new MoleMaps();
        x.letters(Check.letters("341;0919"));
        x.mine();
        for (int call = 3; call <= 511; call++) {
            due("call " + call, x.minutes(60), 0);
        }
        due("call 512", x.count(5), 509 * 60);
    }

    // ---- letters, blank, fault, mine

    private static void ofLetters() {
        upToEight();
        lowestByteFirst();
        untilAZero();
        aByteAbove126();
        behindAZero();
        above66();
        hadLetters();
    }

    private static void upToEight() {
        of("Letters come behind THE PAGE, up to eight");
        for (int many = 0; many <= 8; many++) {
            MoleMaps x = new MoleMaps();
            due("letters() of " + many, x.letters(Check.letters("01234567".substring(0, many))), many);
            due("as many behind them", x.letters(Check.letters("01234567".substring(0, many))), 2 * many);
        }
    }

    private static void lowestByteFirst() {
        of("the lowest byte first");
        MoleMaps x = new MoleMaps();
        x.letters(0x4847464544434241L);
        due("digest()", x.digest(), digestOf(65, 66, 67, 68, 69, 70, 71, 72, 0, 0, 0, 0, 0, 0, 8, 0, 0));
        x.letters(0x4A49L);
        due("behind them", x.digest(), digestOf(65, 66, 67, 68, 69, 70, 71, 72, 73, 74, 0, 0, 0, 0, 0, 0, 10, 0, 0));
    }

    private static void untilAZero() {
        of("until a byte that is 0: how many THE PAGE has");
        MoleMaps x = new MoleMaps();
        due("none at first", x.letters(0), 0);
        due("one", x.letters('0'), 1);
        due("none behind it", x.letters(0), 1);
        due("eight without a 0", x.letters(Check.letters("abcdefgh")), 9);
    }

    private static void aByteAbove126() {
        of("OUTSIDE: a byte above 126");
        for (int place = 0; place < 8; place++) {
            long ahead = Check.letters("abcdefg".substring(0, place));
            for (int letter = 1; letter <= 255; letter++) {
                MoleMaps x = new MoleMaps();
                long got = x.letters(ahead | (long) letter << 8 * place);
                due("letter " + letter + " at " + place, got, letter > 126 ? OUTSIDE : place + 1);
                due("letters then", x.count(6), letter > 126 ? 0 : place + 1);
            }
        }
    }

    private static void behindAZero() {
        of("or one behind a 0 that is not 0");
        for (int zero = 0; zero < 7; zero++) {
            for (int place = zero + 1; place < 8; place++) {
                for (long letter : new long[] {1, 126, 127, 128, 255}) {
                    MoleMaps x = new MoleMaps();
                    long ahead = Check.letters("abcdefg".substring(0, zero));
                    due("a 0 at " + zero + " and " + letter + " at " + place, x.letters(ahead | letter << 8 * place), OUTSIDE);
                    due("letters then", x.count(6), 0);
                }
            }
        }
    }

    private static MoleMaps pageOf(int letters) {
        MoleMaps x = new MoleMaps();
        Check.type(x, "a".repeat(letters));
        return x;
    }

    private static void above66() {
        of("FULL: above 66");
        for (int has = 57; has <= 66; has++) {
            for (int more = 0; more <= 8; more++) {
                MoleMaps x = pageOf(has);
                boolean full = has + more > 66;
                due(more + " behind " + has, x.letters(Check.letters("bbbbbbbb".substring(0, more))), full ? FULL : has + more);
                due("letters then", x.count(6), full ? has : has + more);
            }
        }
    }

    private static void hadLetters() {
        of("THE PAGE is empty: how many letters it had.");
        for (int has = 0; has <= 66; has++) {
            MoleMaps x = pageOf(has);
            due("blank() of " + has, x.blank(), has);
            due("letters then", x.count(6), 0);
            due("blank() again", x.blank(), 0);
            due("fault() of none", x.fault(), 0);
        }
        MoleMaps full = pageOf(66);
        full.blank();
        due("66 come again", Check.type(full, "b".repeat(66)), 66);
    }

    private static void faultIs(String text, int want) {
        MoleMaps x = new MoleMaps();
        due("letters of " + text, Check.type(x, text), text.length());
        due("fault() of " + text, x.fault(), want);
        due("letters behind it", x.count(6), text.length());
        due("fault() again", x.fault(), want);
    }

    private static void ofFault() {
        of("The place (from 0) of the first letter of THE PAGE that no MINE has there");
        faultIs("x", 0);
        faultIs("x11;0919", 0);
        for (int place = 0; place < LARGEST.length(); place++) {
            faultIs(LARGEST.substring(0, place) + "x" + LARGEST.substring(place + 1), place);
        }
        faultIs(LARGEST + "0", 64);
        faultIs(LARGEST + "00", 64);
        of("that no MINE has there, behind those ahead of it");
        faultIs("011;0x1x", 5);
        faultIs("0110;;;", 3);
        faultIs("a".repeat(66), 0);
        of("how many letters it has, if there is none");
        for (int many = 0; many <= LARGEST.length(); many++) {
            faultIs(LARGEST.substring(0, many), many);
        }
    }

    private static void ofMine() {
        smallestAndLargest();
        itIsNone();
        anotherIsGone();
        anewInEach();
        pageIsEmptyThen();
    }

    private static void smallestAndLargest() {
        of("THE PAGE is read as THE MINE");
        MoleMaps least = Check.mineOf("011;0919");
        due("galleries of the smallest", least.count(0), 1);
        due("shafts of the smallest", least.count(2), 2);
        MoleMaps most = Check.mineOf(LARGEST);
        due("galleries of the largest", most.count(0), 10);
        due("doors of the largest", most.count(1), 10);
        due("shafts of the largest", most.count(2), 7);
        for (int g = 0; g < 10; g++) {
            due("first knot of " + g, most.gallery(g, 0), LARGEST.charAt(5 * g) - '0');
            due("second knot of " + g, most.gallery(g, 1), LARGEST.charAt(5 * g + 1) - '0');
            due("length of " + g, most.gallery(g, 2), LARGEST.charAt(5 * g + 2) - '0');
        }
        for (int k = 0; k < 7; k++) {
            due("draught of " + k, most.knot(k, 0), LARGEST.charAt(51 + 2 * k) - '0');
        }
    }

    private static void itIsNone() {
        of("how many GALLERIES; THE PAGE is empty then. STATE: it is none.");
        String text = "019d,129;0918";
        for (int many = 0; many <= text.length(); many++) {
            MoleMaps x = new MoleMaps();
            Check.type(x, text.substring(0, many));
            due("mine() of " + text.substring(0, many), x.mine(), many == text.length() ? 2 : STATE);
            due("letters then", x.count(6), many == text.length() ? 0 : many);
            due("mines read", x.count(7), many == text.length() ? 1 : 0);
        }
        MoleMaps more = new MoleMaps();
        Check.type(more, text + "2");
        due("half a shaft more", more.mine(), STATE);
        more.letters('7');
        due("and a whole one", more.mine(), 2);
    }

    private static void anotherIsGone() {
        of("(another one is gone, with MEN");
        MoleMaps x = Check.mineOf(LARGEST);
        for (int man = 0; man < 6; man++) {
            x.man(man == 0 ? 2 : 1, man);
        }
        Check.type(x, "341;3941");
        due("another", x.mine(), 1);
        due("its galleries", x.count(0), 1);
        due("its doors", x.count(1), 0);
        due("its shafts", x.count(2), 2);
        due("men", x.count(3), 0);
        due("about(0, 0)", x.about(0, 0), UNKNOWN);
        due("gallery(1, 0)", x.gallery(1, 0), UNKNOWN);
        due("a shaft that was", x.knot(0, 0), NONE);
        due("height of a shaft that was", x.knot(0, 1), NONE);
        due("wayOut() of a shaft that was", x.wayOut(0), NONE);
        due("those who were smell nothing", x.fire(60, 0), 127);
        due("nor can be told", x.fire(60, 1), OUTSIDE);
        due("those who were come not to be out", x.minutes(9), 0);
        due("nor would", x.walks(9, 1, 0), 0);
        due("a man comes", x.man(2, 4), 0);
        due("he is not out", x.about(0, 2), 0);
        due("he is where he came", x.about(0, 1), 4);
    }

    private static void anewInEach() {
        of("it is DAY, no GAS, minute 0)");
        MoleMaps x = Check.mineOf(LINE);
        x.man(2, 6);
        x.turn();
        x.door(1, false);
        due("the canary", x.minutes(60), 1);
        Check.type(x, LINE);
        due("read again", x.mine(), 3);
        due("day", x.count(4), 0);
        due("air by day", x.gallery(0, 5), 1);
        due("minute 0", x.count(5), 0);
        for (int knot = 0; knot <= 6; knot++) {
            due("gas of " + knot, x.knot(knot, 3), 0);
        }
        due("nobody is out", x.walks(1, 1, 0), 0);
        due("read twice", x.count(7), 2);
    }

    private static void pageIsEmptyThen() {
        of("THE PAGE is empty then.");
        MoleMaps x = new MoleMaps();
        Check.type(x, LARGEST);
        due("mine()", x.mine(), 10);
        due("letters", x.count(6), 0);
        due("blank()", x.blank(), 0);
        due("an empty page is none", x.mine(), STATE);
        due("66 come", Check.type(x, "a".repeat(66)), 66);
        due("the mine stays", x.count(0), 10);
    }

    // ---- gallery, knot, door, turn

    private static void ofGalleriesAndKnots() {
        knotsAsTold();
        whetherADoor();
        intoWhichAirFlows();
        noShaft();
        zeroToSix();
    }

    private static void knotsAsTold() {
        of("what = 0, 1 its KNOTS (as told), 2 LENGTH");
        MoleMaps x = Check.mineOf("069,601;0069");
        int[][] want = {{0, 6, 9}, {6, 0, 1}};
        for (int g = 0; g < 2; g++) {
            for (int what = 0; what <= 2; what++) {
                due("gallery(" + g + ", " + what + ")", x.gallery(g, what), want[g][what]);
            }
        }
        due("what -1", x.gallery(0, -1), OUTSIDE);
        due("what 6", x.gallery(0, 6), OUTSIDE);
    }

    private static void whetherADoor() {
        of("3 whether it has a DOOR (1, 0), 4 whether it is open");
        MoleMaps x = Check.mineOf("011,121d;0919");
        due("none", x.gallery(0, 3), 0);
        due("none is open", x.gallery(0, 4), 1);
        due("a door", x.gallery(1, 3), 1);
        due("open", x.gallery(1, 4), 1);
        x.door(1, false);
        due("a door still", x.gallery(1, 3), 1);
        due("shut", x.gallery(1, 4), 0);
    }

    private static void intoWhichAirFlows() {
        of("5 the KNOT into which air FLOWS through it (NONE: it is STILL)");
        MoleMaps x = Check.mineOf("061d,601,121;0069");
        due("into the first, 0", x.gallery(0, 5), 0);
        due("into the second, 0", x.gallery(1, 5), 0);
        due("still", x.gallery(2, 5), NONE);
        x.turn();
        due("into 6", x.gallery(0, 5), 6);
        x.door(0, false);
        due("shut", x.gallery(0, 5), NONE);
    }

    private static void noShaft() {
        of("what = 0 DRAUGHT (NONE: no SHAFT), 1 HEIGHT (NONE: STILL)");
        MoleMaps x = Check.mineOf("011;0960");
        int[] draught = {9, NONE, NONE, NONE, NONE, NONE, 0};
        int[] height = {108, 108, NONE, NONE, NONE, NONE, 0};
        for (int knot = 0; knot <= 6; knot++) {
            due("draught of " + knot, x.knot(knot, 0), draught[knot]);
            due("height of " + knot, x.knot(knot, 1), height[knot]);
        }
        x.turn();
        due("the draught by moon", x.knot(0, 0), 9);
        due("what -1", x.knot(0, -1), OUTSIDE);
        due("what 4", x.knot(0, 4), OUTSIDE);
    }

    private static void zeroToSix() {
        of("UNKNOWN (0 to 6; without a MINE, too)");
        MoleMaps x = Check.mineOf(LINE);
        MoleMaps none = new MoleMaps();
        for (int knot = -1; knot <= 7; knot++) {
            for (int what = 0; what <= 3; what++) {
                due("whether knot(" + knot + ", " + what + ") is unknown", x.knot(knot, what) == UNKNOWN ? 1 : 0, knot < 0 || knot > 6 ? 1 : 0);
                due("knot(" + knot + ", " + what + ") without a mine", none.knot(knot, what), UNKNOWN);
            }
        }
    }

    private static void ofDoorAndTurn() {
        of("A DOOR is opened or shut: whether it was open (1, 0).");
        MoleMaps x = Check.mineOf(LARGEST);
        for (int g = 0; g < 10; g++) {
            due("opened though open", x.door(g, true), 1);
            due("shut", x.door(g, false), 1);
            due("shut though shut", x.door(g, false), 0);
            for (int other = 0; other < 10; other++) {
                due("behind that, door " + other, x.gallery(other, 4), other == g ? 0 : 1);
            }
            due("opened", x.door(g, true), 0);
            due("it is open", x.gallery(g, 4), 1);
        }
        of("DAY becomes MOON, or MOON DAY: whether it is MOON then (1, 0)");
        for (int i = 1; i <= 5; i++) {
            due("turn() " + i, x.turn(), i % 2);
            due("count(4)", x.count(4), i % 2);
        }
    }

    // ---- men

    private static void ofMen() {
        hisNumber();
        aboutHim();
        hisOwnNumber();
        whereHeIsThen();
    }

    private static void hisNumber() {
        of("A MAN: his number.");
        MoleMaps x = Check.mineOf(LINE);
        due("of the first kind in the first knot", x.man(0, 0), 0);
        due("of the last kind in the last knot", x.man(4, 6), 1);
        due("kind -1", x.man(-1, 0), OUTSIDE);
        due("kind 5", x.man(5, 0), OUTSIDE);
        due("knot -1", x.man(0, -1), UNKNOWN);
        due("knot 7", x.man(0, 7), UNKNOWN);
        for (int man = 2; man < 6; man++) {
            due("one more", x.man(3, 3), man);
        }
        due("a seventh", x.man(3, 3), FULL);
        due("the first one's kind", x.about(0, 0), 0);
        due("the second one's kind", x.about(1, 0), 4);
        due("his knot", x.about(1, 1), 6);
        due("men", x.count(3), 6);
    }

    private static void aboutHim() {
        of("what = 0 KIND, 1 his KNOT, 2 whether he is OUT (1, 0), 3 how much GAS he BEARS");
        MoleMaps x = Check.mineOf(LINE);
        due("nobody", x.about(0, 0), UNKNOWN);
        x.man(2, 6);
        int[] want = {OUTSIDE, 2, 6, 0, 1, OUTSIDE};
        for (int what = -1; what <= 4; what++) {
            due("about(0, " + what + ")", x.about(0, what), want[what + 1]);
        }
        due("the one before him", x.about(-1, 0), UNKNOWN);
        due("the one behind him", x.about(1, 0), UNKNOWN);
        x.minutes(2);
        due("out", x.about(0, 2), 1);
    }

    private static void hisOwnNumber() {
        of("his own number, not that of the KIND; NONE: he is none such (the cast fails)");
        MoleMaps x = Check.mineOf(LINE);
        for (int kind : new int[] {4, 4, 3, 2, 1, 0}) {
            x.man(kind, 0);
        }
        due("a chief as a man", x.as(0, 0), 0);
        due("a chief as a nose", x.as(1, 1), 1);
        due("a chief as a chief", x.as(1, 4), 1);
        due("a chief as a boy", x.as(1, 3), NONE);
        due("a nose as a chief", x.as(4, 4), NONE);
        due("a man as a man", x.as(5, 0), 5);
        due("a man as a nose", x.as(5, 1), NONE);
        due("a canary as a man", x.as(3, 0), 3);
        due("a boy as a canary", x.as(2, 2), NONE);
        due("kind -1", x.as(0, -1), OUTSIDE);
        due("kind 5", x.as(0, 5), OUTSIDE);
        due("man 6", x.as(6, 0), UNKNOWN);
        x.minutes(60);
        due("nobody is out", x.about(3, 2), 0);
        Check.type(x, LINE);
        x.mine();
        due("he is gone", x.as(0, 0), UNKNOWN);
    }

    private static void whereHeIsThen() {
        of("He WALKS a GALLERY: the KNOT where he is then.");
        MoleMaps x = Check.mineOf("061,601,061d,601d,061,601,061,601,061,606;0960");
        x.man(0, 0);
        for (int g = 0; g < 10; g++) {
            due("through " + g, x.walk(0, g), g % 2 == 0 ? 6 : 0);
            due("he is there", x.about(0, 1), g % 2 == 0 ? 6 : 0);
        }
        of("STATE: he is OUT, it is not at his KNOT, or it is shut for him");
        MoleMaps y = Check.mineOf("011,121d,341;0910");
        y.man(0, 2);
        y.man(2, 3);
        due("it ends one knot away", y.walk(0, 0), STATE);
        due("it lies far away", y.walk(0, 2), STATE);
        y.door(1, false);
        due("it is shut for him", y.walk(0, 1), STATE);
        y.minutes(2);
        due("he is out", y.walk(1, 2), STATE);
        due("where the first one is", y.about(0, 1), 2);
        due("where the second one is", y.about(1, 1), 3);
    }

    private static void ofMinutes() {
        of("OUTSIDE: minutes (1 to 60)");
        MoleMaps x = Check.mineOf(LINE);
        due("minutes(0)", x.minutes(0), OUTSIDE);
        due("minutes(1)", x.minutes(1), 0);
        due("count(5)", x.count(5), 1);
        due("minutes(60)", x.minutes(60), 0);
        due("count(5) behind it", x.count(5), 61);
        due("minutes(61)", x.minutes(61), OUTSIDE);
        due("minutes(-1)", x.minutes(-1), OUTSIDE);
        due("the least int", x.minutes(LEAST), OUTSIDE);
        due("the most", x.minutes(MOST), OUTSIDE);
        due("none of these went by", x.count(5), 61);
        of("So many minutes go by: how many came to be OUT.");
        MoleMaps none = Check.mineOf(LINE);
        due("of nobody", none.minutes(60), 0);
        MoleMaps all = Check.mineOf(LINE);
        for (int man = 0; man < 6; man++) {
            all.man(man % 5, 6);
        }
        due("all six at once", all.minutes(7), 6);
        due("nobody more", all.minutes(60), 0);
        MoleMaps some = Check.mineOf(LINE);
        for (int man = 0; man < 6; man++) {
            some.man(man % 5, 6);
        }
        int[] out = {0, 1, 1, 0, 3, 0, 1, 0};
        for (int minute = 0; minute < out.length; minute++) {
            due("minute " + (minute + 1), some.minutes(1), out[minute]);
        }
    }

    // ---- what would be

    private static void ofSmelt() {
        of("SMELT at a KNOT, of a FIRE in another one (0: there); NONE: never.");
        MoleMaps x = Check.mineOf("069,651;0960");
        for (int knot = 0; knot <= 6; knot++) {
            due("there, " + knot, x.smelt(knot, knot), 0);
        }
        due("from the first to the last", x.smelt(0, 6), 9);
        due("from the last to the first", x.smelt(6, 0), NONE);
        x.turn();
        due("from the last to the first by moon", x.smelt(6, 0), 9);
        due("never", x.smelt(1, 2), NONE);
        due("fire -1", x.smelt(-1, 0), UNKNOWN);
        due("fire 7", x.smelt(7, 0), UNKNOWN);
        due("knot -1", x.smelt(0, -1), UNKNOWN);
        due("knot 7", x.smelt(0, 7), UNKNOWN);
        // By ways of two galleries that begin in 6, lead through 6, end in 6.
        due("from 6", Check.mineOf("601,012;600319").smelt(6, 1), NONE);
        MoleMaps six = Check.mineOf("604,015;690510");
        due("from 6 through 0", six.smelt(6, 1), 9);
        due("through 6", Check.mineOf("064,615;096510").smelt(0, 1), 9);
        due("to 6", Check.mineOf("014,165;091560").smelt(0, 6), 9);
    }

    private static void ofDoors() {
        setsOfDoors();
        fortyTimes();
    }

    private static void setsOfDoors() {
        of("OUTSIDE: set (bits of KNOTS), what");
        MoleMaps x = Check.mineOf("011d,121,231,341,451,561;09182736455463");
        due("the empty set", x.doors(0, 0), 0);
        due("which for the empty set", x.doors(0, 1), 0);
        due("the full set", x.doors(127, 0), 0);
        due("which for the full set", x.doors(127, 1), 0);
        due("set -1", x.doors(-1, 0), OUTSIDE);
        due("set 128", x.doors(128, 0), OUTSIDE);
        due("what -1", x.doors(0, -1), OUTSIDE);
        due("what 2", x.doors(0, 2), OUTSIDE);
        x.door(0, false);
        due("one", x.doors(127, 0), 1);
        due("which one", x.doors(127, 1), 1);
        due("by none", Check.mineOf("011,341;0910").doors(64, 0), NONE);
        due("which by none", Check.mineOf("011,341;0910").doors(64, 1), NONE);
    }

    private static void fortyTimes() {
        of("STATE: doors() was done 40 times ever (refusals do not count, all else does)");
        MoleMaps x = new MoleMaps();
        due("refused without a mine", x.doors(0, 0), STATE);
        Check.type(x, LINE);
        x.mine();
        for (int i = 0; i < 40; i++) {
            due("outside, before " + i, x.doors(128, 0), OUTSIDE);
            due("outside, too", x.doors(0, 2), OUTSIDE);
            due("done so far", x.count(8), i);
            due("by none, or none to be moved", x.doors(i % 2 == 0 ? 8 : 7, i % 2), i % 2 == 0 ? NONE : 0);
        }
        due("forty", x.count(8), 40);
        due("once more", x.doors(7, 0), STATE);
        due("and again", x.doors(7, 1), STATE);
        due("forty still", x.count(8), 40);
        Check.type(x, LINE);
        due("another mine", x.mine(), 3);
        due("ever", x.doors(7, 0), STATE);
        due("forty in another mine", x.count(8), 40);
    }

    private static void ofFireAndNext() {
        of("OUTSIDE: minutes (0 to 60), set (bits of MEN, NOSES alone)");
        MoleMaps x = Check.mineOf(LINE);
        for (int kind : new int[] {0, 1, 2, 3, 4, 1}) {
            x.man(kind, 2);
        }
        for (int minutes : new int[] {LEAST, -1, 61, MOST}) {
            due("fire(" + minutes + ", 0)", x.fire(minutes, 0), OUTSIDE);
            due("next(" + minutes + ", 0)", x.next(minutes, 0), OUTSIDE);
        }
        due("fire(0, 0)", x.fire(0, 0), 127 - 4);
        due("fire(60, 0)", x.fire(60, 0), 127 - 7);
        due("next(0, 0)", x.next(0, 0), 0);
        due("next(60, 0)", x.next(60, 0), 3);
        int noses = 2 + 16 + 32;
        for (int set = -1; set <= 128; set++) {
            boolean outside = (set & ~noses) != 0;
            int fires = set == 0 ? 120 : set == noses ? 7 : 0;
            due("fire(60, " + set + ")", x.fire(60, set), outside ? OUTSIDE : fires);
            due("whether next(60, " + set + ") is outside", x.next(60, set) == OUTSIDE ? 1 : 0, outside ? 1 : 0);
        }
        for (int set : new int[] {LEAST, LEAST + 2, 1 << 30, MOST}) {
            due("fire(60, " + set + ")", x.fire(60, set), OUTSIDE);
            due("next(60, " + set + ")", x.next(60, set), OUTSIDE);
        }
        MoleMaps none = Check.mineOf(LINE);
        due("a set of nobody", none.fire(0, 0), 127);
        due("one who is not there", none.fire(0, 1), OUTSIDE);
        due("next() by nobody", none.next(0, 0), 0);
        due("next() by one who is not there", none.next(0, 1), OUTSIDE);
    }

    private static void ofRescue() {
        of("what = 0 the least risk, 10 and i the so-manieth KNOT (NONE)");
        MoleMaps x = Check.mineOf("061,161,261,361,461,561;0919");
        for (int many = 0; many <= 5; many++) {
            int set = (1 << many) - 1;
            due("risk of " + many, x.rescue(6, set, 0), many * many);
            for (int i = 0; i < 5; i++) {
                due("knot " + i + " of " + many, x.rescue(6, set, 10 + i), i < many ? i : NONE);
            }
        }
        due("what -1", x.rescue(6, 3, -1), OUTSIDE);
        due("what 1", x.rescue(6, 3, 1), OUTSIDE);
        due("what 9", x.rescue(6, 3, 9), OUTSIDE);
        due("what 15", x.rescue(6, 3, 15), OUTSIDE);
        due("least what", x.rescue(6, 3, LEAST), OUTSIDE);
        due("what that wraps", x.rescue(6, 3, LEAST + 10), OUTSIDE);
        due("most what", x.rescue(6, 3, MOST), OUTSIDE);
        of("OUTSIDE: set (bits of KNOTS, 5 at most)");
        for (int set = -1; set <= 128; set++) {
            boolean outside = set < 0 || set > 127 || Integer.bitCount(set) > 5;
            due("whether set " + set + " is outside", x.rescue(6, set, 0) == OUTSIDE ? 1 : 0, outside ? 1 : 0);
        }
        due("least set", x.rescue(6, LEAST, 0), OUTSIDE);
        due("most set", x.rescue(6, MOST, 0), OUTSIDE);
        of("NONE: some can not be come to.");
        MoleMaps apart = Check.mineOf("011,651;0919");
        due("the last knot alone", apart.rescue(0, 64, 0), NONE);
        due("beside one that can be", apart.rescue(0, 2 + 64, 0), NONE);
        due("two that can not", apart.rescue(0, 32 + 64, 0), NONE);
        due("its place", apart.rescue(0, 64, 10), NONE);
        apart.minutes(9);
        due("where there is gas", apart.rescue(0, 64, 0), NONE);
        due("two where there is gas", apart.rescue(0, 32 + 64, 0), NONE);
        due("one that can be, where there is gas", apart.rescue(5, 64, 0), 10);
        due("from -1", apart.rescue(-1, 0, 0), UNKNOWN);
        due("from 7", apart.rescue(7, 0, 0), UNKNOWN);
    }

    private static void ofWalks() {
        of("OUTSIDE: times (1 to 60), seed (0 at least), what");
        MoleMaps x = Check.mineOf("341;0919");
        due("no times", x.walks(0, 0, 2), OUTSIDE);
        due("once", x.walks(1, 0, 2), 7);
        due("sixty times", x.walks(60, 0, 2), 63);
        due("sixty-one times", x.walks(61, 0, 2), OUTSIDE);
        due("least times", x.walks(LEAST, 0, 2), OUTSIDE);
        due("most times", x.walks(MOST, 0, 2), OUTSIDE);
        due("seed -1", x.walks(1, -1, 3), OUTSIDE);
        due("seed 0", x.walks(1, 0, 3), 0);
        due("the most seed", x.walks(1, MOST, 3), MOST);
        due("the least int as a seed", x.walks(1, LEAST, 3), OUTSIDE);
        due("what -1", x.walks(1, 0, -1), OUTSIDE);
        due("what 0", x.walks(1, 0, 0), 0);
        due("what 3", x.walks(1, 5, 3), 5);
        due("what 4", x.walks(1, 0, 4), OUTSIDE);
        of("what = 0 how many are OUT then, 1 the KNOT of MAN 0 (NONE)");
        due("no man 0", x.walks(1, 0, 1), NONE);
        for (int man = 0; man < 6; man++) {
            x.man(2, 6);
            due("man 0", x.walks(2, 0, 1), 6);
            due("all are out", x.walks(2, 0, 0), man + 1);
        }
    }

    // ---- what is told of all

    private static void ofImages() {
        imageIsTheLatest();
        noneWasKept();
        thereIsAnotherMine();
        menCameSince();
    }

    private static void imageIsTheLatest() {
        of("An IMAGE is kept (one; the latest): how many minutes have gone.");
        MoleMaps x = Check.mineOf(LINE);
        due("none has gone", x.image(), 0);
        x.minutes(60);
        due("sixty", x.image(), 60);
        x.minutes(5);
        due("the latest", x.restore(), 60);
        due("the latest once more", x.restore(), 60);
        x.minutes(1);
        due("from there", x.image(), 61);
        x.minutes(60);
        due("the latest of all", x.restore(), 61);
    }

    private static void noneWasKept() {
        of("STATE: none was kept");
        MoleMaps x = new MoleMaps();
        due("on a new object", x.restore(), STATE);
        due("nor is any kept", x.image(), STATE);
        due("still none", x.restore(), STATE);
        Check.type(x, LINE);
        x.mine();
        due("in a mine", x.restore(), STATE);
        x.minutes(1);
        due("behind a minute", x.restore(), STATE);
        due("kept", x.image(), 1);
        due("restored", x.restore(), 1);
    }

    private static void thereIsAnotherMine() {
        of("or there is another MINE, or MEN came, since");
        MoleMaps x = Check.mineOf(LINE);
        x.image();
        Check.type(x, LINE + "x");
        due("a page that is none", x.mine(), STATE);
        due("the same mine", x.restore(), 0);
        x.blank();
        Check.type(x, LINE);
        due("another one", x.mine(), 3);
        due("not from the old one's", x.restore(), STATE);
        due("its own", x.image(), 0);
        due("from its own", x.restore(), 0);
    }

    private static void menCameSince() {
        of("or MEN came, since.");
        MoleMaps x = Check.mineOf(LINE);
        x.image();
        x.man(5, 0);
        x.man(0, 7);
        due("none came", x.restore(), 0);
        for (int man = 0; man < 6; man++) {
            x.man(0, 0);
            due("man " + man + " came", x.restore(), STATE);
            x.image();
            due("he was there", x.restore(), 0);
        }
        due("no seventh came", x.man(0, 0), FULL);
        due("six were there", x.restore(), 0);
        // As many MEN in another mine are not those who were there.
        MoleMaps y = Check.mineOf(LINE);
        y.man(0, 0);
        y.image();
        Check.type(y, LINE);
        y.mine();
        y.man(0, 0);
        due("as many came", y.restore(), STATE);
    }

    private static void ofCount() {
        of("How many: 0 GALLERIES, 1 DOORS, 2 SHAFTS, 3 MEN, 4 whether it is MOON (1, 0)");
        MoleMaps x = Check.mineOf(LARGEST);
        for (int man = 0; man < 6; man++) {
            x.man(0, 0);
        }
        x.turn();
        x.minutes(60);
        Check.type(x, "a".repeat(66));
        for (int i = 0; i < 41; i++) {
            x.doors(0, 0);
        }
        int[] want = {OUTSIDE, 10, 10, 7, 6, 1, 60, 66, 1, 40, OUTSIDE};
        for (int what = -1; what <= 9; what++) {
            due("count(" + what + ")", x.count(what), want[what + 1]);
        }
        due("least what", x.count(LEAST), OUTSIDE);
        due("most what", x.count(MOST), OUTSIDE);
        of("7 how often a MINE was read");
        MoleMaps again = new MoleMaps();
        for (int i = 1; i <= 20; i++) {
            again.mine();
            again.letters(Check.letters("341;0919"));
            again.mine();
            due("read " + i, again.count(7), i);
        }
    }

    private static long digestOf(long... numbers) {
        long h = 659;
        for (long n : numbers) {
            h = 31 * h + n;
        }
        return h;
    }

    private static void ofDigest() {
        of("h is 659, then for each of these numbers, in order, 31 times h, and it (as longs, wrapping)");
        MoleMaps page = new MoleMaps();
        long[] numbers = new long[66 + 9];
        for (int i = 0; i < 66; i++) {
            int letter = i % 2 == 0 ? 1 : 126;
            page.letters(letter);
            numbers[i] = letter;
        }
        numbers[66 + 6] = 66;
        due("of a full page without a mine", page.digest(), digestOf(numbers));
        MoleMaps x = Check.mineOf("061;0069");
        due("of the smallest mine", x.digest(), digestOf(0, 6, 1, 0, 1, 0,
            0, 0, 1, 0, 0, 0,
            NONE, NONE, 0, 0, NONE, NONE,
            NONE, NONE, 0, 0, NONE, NONE,
            NONE, NONE, 0, 0, NONE, NONE,
            NONE, NONE, 0, 0, NONE, NONE,
            NONE, NONE, 0, 0, NONE, NONE,
            9, 108, 1, 0, 1, 0,
            1, 0, 2, 0, 0, 0, 0, 1, 0));
        x.man(2, 1);
        x.man(4, 6);
        x.minutes(2);
        x.turn();
        x.letters('~');
        due("of a mine with men and a page", x.digest(), digestOf(0, 6, 1, 0, 1, 6,
            0, 108, 1, 0, 0, 0,
            NONE, NONE, 0, 2, NONE, NONE,
            NONE, NONE, 0, 2, NONE, NONE,
            NONE, NONE, 0, 2, NONE, NONE,
            NONE, NONE, 0, 2, NONE, NONE,
            NONE, NONE, 0, 2, NONE, NONE,
            9, 0, 1, 0, NONE, 0,
            2, 1, 1, 1, 4, 6, 0, 6,
            126,
            1, 0, 2, 2, 1, 2, 1, 1, 0));
    }
}
