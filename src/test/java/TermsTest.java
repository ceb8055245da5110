import java.math.BigInteger;

/**
 * The document's 'Terms', sentence by sentence: of each that names a bound, the last value within it and the first
 * beyond it, the empty and the full case, and what wraps around.
 */
public final class TermsTest {
    private static final int NONE = -1, UNKNOWN = -101, OUTSIDE = -102, STATE = -103, FULL = -104;
    private static final int MOST = Integer.MAX_VALUE;
    private static final String NINE = "011,121,231,341,451,561,601,021,131";
    private static final String NINE_DOORS = "011d,121d,231d,341d,451d,561d,601d,021d,131d";
    /** All KNOTS are SHAFTS, each lower than the one before: air FLOWS from 0 through all to 6. */
    private static final String STAIRS = "019,129,239,349,459,569;09182736455463";
    /** 0 is high by DAY, 2 is low, 1 lies between; 3 lies behind 2, 4 to 6 nowhere. */
    private static final String LINE = "014,122d,235;0920";

    private static final Check check = new Check();

    public static void main(String[] args) {
        ofTheMine();
        ofHeights();
        ofFlows();
        ofSmoke();
        ofGasAndMen();
        ofDoors();
        ofWaysOut();
        ofFires();
        ofNext();
        ofRescue();
        ofWalks();
        ofImages();
        check.end("TermsTest");
    }

    private static void of(String sentence) {
        check.of(sentence);
    }

    private static void due(String call, long got, long want) {
        check.due(call, got, want);
    }

    // ---- THE MINE

    private static void ofTheMine() {
        knotsAreZeroToSix();
        oneToTenGalleries();
        numberedFromZero();
        commasBetween();
        unlikeDigits();
        lengthOneToNine();
        perhapsADoor();
        openAtFirst();
        twoToSevenShafts();
        sideBySide();
        draughtZeroToNine();
        noKnotTwice();
    }

    /** Of all letters behind these a MINE may have such alone. */
    private static void takes(String ahead, String such) {
        for (int letter = 1; letter <= 126; letter++) {
            MoleMaps x = new MoleMaps();
            Check.type(x, ahead);
            x.letters(letter);
            int due = such.indexOf(letter) >= 0 ? ahead.length() + 1 : ahead.length();
            due("fault() of " + ahead + " and letter " + letter, x.fault(), due);
        }
    }

    private static void isMine(String text, int galleries) {
        MoleMaps x = new MoleMaps();
        due("letters of " + text, Check.type(x, text), text.length());
        due("fault() of " + text, x.fault(), text.length());
        due("mine() of " + text, x.mine(), galleries);
    }

    private static void isNone(String text, int fault) {
        MoleMaps x = new MoleMaps();
        Check.type(x, text);
        due("fault() of " + text, x.fault(), fault);
        due("mine() of " + text, x.mine(), STATE);
    }

    private static void knotsAreZeroToSix() {
        of("KNOTS are 0 to 6.");
        takes("", "0123456");
        MoleMaps x = Check.mineOf("061;0060");
        for (int knot = 0; knot <= 6; knot++) {
            due("gas of " + knot, x.knot(knot, 3), 0);
        }
        due("knot -1", x.knot(-1, 3), UNKNOWN);
        due("knot 7", x.knot(7, 3), UNKNOWN);
    }

    private static void oneToTenGalleries() {
        of("THE MINE is a text: one to ten GALLERIES");
        isNone(";0919", 0);
        isMine("011;0919", 1);
        isMine(NINE + ";0919", 9);
        isMine(NINE + ",241;0919", 10);
        isMine(NINE_DOORS + ",241d;0919", 10);
        takes(NINE, "d,;");
        takes(NINE + ",241", "d;");
        takes(NINE_DOORS, ",;");
        takes(NINE_DOORS + ",241d", ";");
        isNone(NINE + ",241,351;0919", 39);
    }

    private static void numberedFromZero() {
        of("GALLERIES (numbered from 0)");
        MoleMaps x = Check.mineOf(NINE + ",246d;0919");
        due("the first", x.gallery(0, 1), 1);
        due("the tenth", x.gallery(9, 2), 6);
        due("one before the first", x.gallery(-1, 2), UNKNOWN);
        due("an eleventh", x.gallery(10, 2), UNKNOWN);
        due("the door of the tenth", x.door(9, false), 1);
        due("that of an eleventh", x.door(10, false), UNKNOWN);
        MoleMaps one = Check.mineOf("011;0919");
        due("the first of one", one.gallery(0, 2), 1);
        due("a second of one", one.gallery(1, 2), UNKNOWN);
    }

    private static void commasBetween() {
        of("with \",\" between");
        isNone(",011;0919", 0);
        isNone("011012;0919", 3);
        isNone("011,,012;0919", 4);
        isNone("011,;0919", 4);
        isNone("011d,;0919", 5);
        takes("011,", "0123456");
        takes("011d,", "0123456");
    }

    private static void unlikeDigits() {
        of("each two unlike digits (KNOTS)");
        for (int knot = 0; knot <= 6; knot++) {
            takes("" + knot, "0123456".replace("" + knot, ""));
            takes("011," + knot, "0123456".replace("" + knot, ""));
        }
        isNone("001;0919", 1);
        isNone("661;0919", 1);
        isMine("061;0919", 1);
        isMine("601;0919", 1);
    }

    private static void lengthOneToNine() {
        of("a digit LENGTH (1 to 9)");
        takes("01", "123456789");
        takes("011d,65", "123456789");
        isNone("010;0919", 2);
        due("the least", Check.mineOf("011;0919").gallery(0, 2), 1);
        due("the most", Check.mineOf("019;0919").gallery(0, 2), 9);
    }

    private static void perhapsADoor() {
        of("then perhaps \"d\" (it has a DOOR");
        takes("011", "d,;");
        takes("011d", ",;");
        isNone("011dd;0919", 4);
        isNone("d011;0919", 0);
        isNone("011;d0919", 4);
        MoleMaps x = Check.mineOf("011,121d,231;0919");
        due("none", x.gallery(0, 3), 0);
        due("a door", x.gallery(1, 3), 1);
        due("none behind it", x.gallery(2, 3), 0);
    }

    private static void openAtFirst() {
        of("(it has a DOOR, open at first)");
        MoleMaps x = Check.mineOf("011d,121d;0919");
        due("open", x.gallery(0, 4), 1);
        x.door(0, false);
        x.door(1, false);
        Check.type(x, "011d,121d;0919");
        x.mine();
        due("open in another mine", x.gallery(0, 4), 1);
        due("and the other", x.gallery(1, 4), 1);
    }

    private static void twoToSevenShafts() {
        of("then \";\" and two to seven SHAFTS");
        isNone("011", 3);
        isNone("011;", 4);
        isNone("011;09", 6);
        isNone("0110919", 3);
        isNone("011,0919", 5);
        isMine("011;0919", 1);
        isMine("011;091929394959", 1);
        isMine("011;09192939495969", 1);
        takes("011;09192939495969", "");
        takes("011;0919293949596", "0123456789");
        due("the fewest", Check.mineOf("011;0919").count(2), 2);
        due("the most", Check.mineOf("011;09192939495969").count(2), 7);
    }

    private static void sideBySide() {
        of("two to seven SHAFTS, side by side");
        isNone("011;0919,29", 8);
        isNone("011;0919;29", 8);
        isNone("011;09,19", 6);
        isNone("011;091", 7);
        isNone("011;09192", 9);
        isNone("011;0919293949596", 17);
    }

    private static void draughtZeroToNine() {
        of("each a digit (a KNOT) and a digit (DRAUGHT, 0 to 9)");
        takes("011;", "0123456");
        takes("011;5", "0123456789");
        takes("011;094", "0123456789");
        MoleMaps x = Check.mineOf("011;0069");
        due("the least", x.knot(0, 0), 0);
        due("the most", x.knot(6, 0), 9);
        due("no shaft", x.knot(1, 0), NONE);
    }

    private static void noKnotTwice() {
        of("no KNOT twice");
        for (int first = 0; first < 6; first++) {
            for (int again = first + 1; again <= 6; again++) {
                StringBuilder shafts = new StringBuilder("09192939495969");
                shafts.setCharAt(2 * again, (char) ('0' + first));
                isNone("011;" + shafts, 4 + 2 * again);
            }
        }
        takes("011;6959493929", "01");
        takes("011;695949392919", "0");
    }

    // ---- HEIGHTS

    private static void ofHeights() {
        airComesIn();
        heightOfShafts();
        byOpenGalleries();
        nearestShafts();
        roundedDown();
        othersHaveNone();
    }

    private static void heightIs(String text, int knot, int byDay, int byMoon) {
        MoleMaps x = Check.mineOf(text);
        due("height of " + knot + " in " + text, x.knot(knot, 1), byDay);
        x.turn();
        due("height of " + knot + " by moon in " + text, x.knot(knot, 1), byMoon);
        x.turn();
        due("height of " + knot + " by day again in " + text, x.knot(knot, 1), byDay);
    }

    private static void airComesIn() {
        of("AIR comes in by SHAFTS of more DRAUGHT by DAY, of less by MOON.");
        for (int zero = 0; zero <= 9; zero++) {
            for (int six = 0; six <= 9; six++) {
                MoleMaps x = Check.mineOf("061;0" + zero + "6" + six);
                String draughts = " of draughts " + zero + " and " + six;
                int byDay = zero > six ? 6 : zero < six ? 0 : NONE;
                due("by day" + draughts, x.gallery(0, 5), byDay);
                x.turn();
                due("by moon" + draughts, x.gallery(0, 5), byDay == NONE ? NONE : 6 - byDay);
            }
        }
    }

    private static void heightOfShafts() {
        of("HEIGHT of a KNOT: of a SHAFT 12 times its DRAUGHT (by MOON 12 times what 9 is more than it)");
        for (int draught = 0; draught <= 9; draught++) {
            heightIs("011;0" + draught + "60", 0, 12 * draught, 108 - 12 * draught);
            heightIs("011;006" + draught, 6, 12 * draught, 108 - 12 * draught);
        }
    }

    private static void byOpenGalleries() {
        of("of another one, if it can be come to from some SHAFT by open GALLERIES (a GALLERY whose DOOR is open, or which has none)");
        MoleMaps x = Check.mineOf("021d,231;0510");
        due("a door that is open", x.knot(2, 1), 60);
        due("and a gallery that has none", x.knot(3, 1), 60);
        x.door(0, false);
        due("a door that is shut", x.knot(2, 1), NONE);
        due("what lies behind it", x.knot(3, 1), NONE);
        due("the shaft before it", x.knot(0, 1), 60);
        x.door(0, true);
        due("open again", x.knot(3, 1), 60);
        MoleMaps two = Check.mineOf("021d,021,121d;0510");
        due("between both", two.knot(2, 1), 30);
        two.door(2, false);
        due("from one alone", two.knot(2, 1), 60);
        two.door(0, false);
        due("by the gallery beside a shut one", two.knot(2, 1), 60);
    }

    private static void nearestShafts() {
        of("the HEIGHTS of the nearest SHAFTS (all that are as few GALLERIES away as any) together, by how many they are");
        heightIs("011,121;0926", 1, 90, 18);
        heightIs("011,131,321;0926", 1, 108, 0);
        heightIs("031,312,121;0926", 1, 72, 36);
        // LENGTH counts for nothing.
        heightIs("019,131,321;0926", 1, 108, 0);
        heightIs("011,021,031,041,051,061;192939495968", 0, 106, 2);
        heightIs("011,021,031,041,051,061;102030405060", 0, 0, 108);
        // The same SHAFT by two ways, and one behind a SHAFT.
        heightIs("011,011,131;0935", 1, 84, 24);
        heightIs("011,021,131,231,341;0946", 3, 72, 36);
        heightIs("011,121,231;092534", 1, 84, 24);
        // Five GALLERIES away: none can be farther.
        heightIs("121,231,341,451,561;0915", 6, 60, 48);
        heightIs("651,541,431,321,211;6500", 1, 60, 48);
    }

    private static void roundedDown() {
        of("(rounded down)");
        int[] byDay = {0, 2, 4, 7, 9, 12, 14, 16, 19, 21};
        int[] byMoon = {108, 105, 103, 100, 98, 96, 93, 91, 88, 86};
        for (int draught = 0; draught <= 9; draught++) {
            heightIs("011,021,031,041,051;1" + draught + "20304050", 0, byDay[draught], byMoon[draught]);
        }
    }

    private static void othersHaveNone() {
        of("others have none (they are STILL).");
        heightIs("011,341;0919", 2, NONE, NONE);
        heightIs("011,341;0919", 3, NONE, NONE);
        heightIs("011,341;0919", 6, NONE, NONE);
        // A HEIGHT of 0 is one, too.
        heightIs("011,121;0029", 0, 0, 108);
        heightIs("031,341;0019", 4, 0, 108);
        due("a still one does not breathe", Check.mineOf("011,341;0910").knot(3, 2), 0);
    }

    // ---- FLOWS

    private static void ofFlows() {
        fromMoreToLess();
        bothAlike();
        oneIsStill();
        knotBreathes();
    }

    private static void fromMoreToLess() {
        of("In an open GALLERY air FLOWS from the KNOT of more HEIGHT to that of less");
        MoleMaps x = Check.mineOf("011,102d;0910");
        due("on to the second", x.gallery(0, 5), 1);
        due("on to the first", x.gallery(1, 5), 1);
        x.turn();
        due("back by moon", x.gallery(0, 5), 0);
        x.door(1, false);
        due("not through a shut one", x.gallery(1, 5), NONE);
        due("through the open one beside it", x.gallery(0, 5), 0);
        // 5 lies at 2 (12 by five, rounded down), 6 at 3 (12 by four).
        MoleMaps least = Check.mineOf("501,511,521,531,541,601,611,621,631,561;0110203040");
        due("height of 5", least.knot(5, 1), 2);
        due("height of 6", least.knot(6, 1), 3);
        due("by the least that can be", least.gallery(9, 5), 5);
        due("from 0 to 9, the most that can be", Check.mineOf("061;0069").gallery(0, 5), 0);
    }

    private static void bothAlike() {
        of("if both are alike, or one is STILL, it is STILL");
        due("alike", Check.mineOf("011;0515").gallery(0, 5), NONE);
        due("both 0", Check.mineOf("011;0010").gallery(0, 5), NONE);
        due("both 108", Check.mineOf("011;0919").gallery(0, 5), NONE);
        MoleMaps other = Check.mineOf("011;0514");
        due("unlike by 12", other.gallery(0, 5), 1);
        other.turn();
        due("unlike by moon", other.gallery(0, 5), 0);
        due("of one shaft", Check.mineOf("021,231;0910").gallery(1, 5), NONE);
        // 48 by five is 9 when it is rounded down, and 36 by four is 9.
        MoleMaps rounded = Check.mineOf("501,511,521,531,541,601,611,621,631,561;0310203041");
        due("height of 5", rounded.knot(5, 1), 9);
        due("height of 6", rounded.knot(6, 1), 9);
        due("alike when rounded", rounded.gallery(9, 5), NONE);
    }

    private static void oneIsStill() {
        of("or one is STILL, it is STILL");
        MoleMaps x = Check.mineOf("011,341,121d;0910");
        due("both still", x.gallery(1, 5), NONE);
        x.door(2, false);
        due("one, behind a shut door", x.gallery(2, 5), NONE);
        due("it is still", x.knot(2, 1), NONE);
        // A HEIGHT of 0 is not STILL, though NONE is one less.
        due("0 and 12", Check.mineOf("011;0011").gallery(0, 5), 0);
    }

    private static void knotBreathes() {
        of("A KNOT BREATHES, if some air FLOWS into it or out of it.");
        MoleMaps x = Check.mineOf("011,021,131,451;0910");
        due("out of it", x.knot(0, 2), 1);
        due("into it", x.knot(1, 2), 1);
        due("still galleries alone", x.knot(2, 2), 0);
        due("behind where it breathes", x.knot(3, 2), 0);
        due("nowhere", x.knot(4, 2), 0);
        due("without a gallery", x.knot(6, 2), 0);
        MoleMaps line = Check.mineOf(LINE);
        due("into it and out of it", line.knot(1, 2), 1);
        line.door(1, false);
        for (int knot = 0; knot <= 6; knot++) {
            due("none breathes, " + knot, line.knot(knot, 2), 0);
        }
        MoleMaps all = Check.mineOf(STAIRS);
        for (int knot = 0; knot <= 6; knot++) {
            due("all breathe, " + knot, all.knot(knot, 2), 1);
        }
    }

    // ---- SMOKE

    private static void ofSmoke() {
        smokeGoesByMinutes();
        smokeGoesFar();
        smokeGoesWithTheAir();
        smeltFirst();
    }

    /** A NOSE in a KNOT smells a FIRE in another one behind so many minutes, and not a minute less. */
    private static void smeltBehind(String text, int fire, int knot, int minutes) {
        MoleMaps x = Check.mineOf(text);
        due("smelt(" + fire + ", " + knot + ") in " + text, x.smelt(fire, knot), minutes);
        x.man(1, knot);
        due("by a minute less in " + text, x.fire(minutes - 1, 1) >> fire & 1, 0);
        due("by then in " + text, x.fire(minutes, 1) >> fire & 1, 1);
        due("by a minute more in " + text, x.fire(minutes + 1, 1) >> fire & 1, 1);
    }

    private static void smokeGoesByMinutes() {
        of("from a KNOT where it was so many minutes ago as the GALLERY is LONG");
        for (int length = 1; length <= 9; length++) {
            smeltBehind("01" + length + ";0910", 0, 1, length);
        }
        smeltBehind("014,122;0920", 0, 2, 6);
    }

    private static void smokeGoesFar() {
        of("SMOKE: of a FIRE in a KNOT; behind each minute it is also in each KNOT into which air FLOWS");
        MoleMaps x = Check.mineOf(STAIRS);
        for (int fire = 0; fire <= 6; fire++) {
            for (int knot = 0; knot <= 6; knot++) {
                due("smelt(" + fire + ", " + knot + ")", x.smelt(fire, knot), fire <= knot ? 9 * (knot - fire) : NONE);
            }
        }
        x.turn();
        for (int fire = 0; fire <= 6; fire++) {
            for (int knot = 0; knot <= 6; knot++) {
                due("by moon smelt(" + fire + ", " + knot + ")", x.smelt(fire, knot), fire >= knot ? 9 * (fire - knot) : NONE);
            }
        }
        smeltBehind(STAIRS, 0, 6, 54);
        // By ways that lead through 6.
        smeltBehind("062,613;0910", 0, 1, 5);
    }

    private static void smokeGoesWithTheAir() {
        of("into which air FLOWS through a GALLERY");
        MoleMaps x = Check.mineOf(LINE);
        due("against it", x.smelt(1, 0), NONE);
        due("where it is still", x.smelt(2, 3), NONE);
        x.door(1, false);
        due("through a shut door", x.smelt(1, 2), NONE);
        due("where it is still now", x.smelt(0, 1), NONE);
        x.door(1, true);
        due("open again", x.smelt(0, 2), 6);
        due("where both are still", Check.mineOf("011,341;0910").smelt(3, 4), NONE);
    }

    private static void smeltFirst() {
        of("SMELT at a KNOT: behind how many minutes first.");
        for (int knot = 0; knot <= 6; knot++) {
            due("in its own knot", Check.mineOf(LINE).smelt(knot, knot), 0);
        }
        smeltBehind("019,018,013,014;0910", 0, 1, 3);
        smeltBehind("025,013,123;092014", 0, 2, 5);
        smeltBehind("026,013,123;092014", 0, 2, 6);
    }

    // ---- GAS and MEN

    private static void ofGasAndMen() {
        gasGathers();
        nineAtMost();
        zeroAgain();
        sixMen();
        eachInAKnot();
        kindsZeroToFour();
        chiefIsANose();
        bearsGas();
        endOfAMinute();
        heStays();
        walksNoMinute();
        whoIsNotOutWalks();
        boyWalksShut();
    }

    private static void gasGathers() {
        of("GAS gathers in each KNOT that does not BREATHE: 1 more each minute");
        MoleMaps x = Check.mineOf(LINE);
        for (int minute = 1; minute <= 9; minute++) {
            x.minutes(1);
            for (int knot = 0; knot <= 6; knot++) {
                due("gas of " + knot + " behind " + minute, x.knot(knot, 3), knot <= 2 ? 0 : minute);
            }
        }
    }

    private static void nineAtMost() {
        of("1 more each minute (9 at most)");
        MoleMaps x = Check.mineOf(LINE);
        x.minutes(8);
        due("behind 8", x.knot(6, 3), 8);
        x.minutes(1);
        due("behind 9", x.knot(6, 3), 9);
        x.minutes(1);
        due("behind 10", x.knot(6, 3), 9);
        x.minutes(60);
        due("behind 70", x.knot(6, 3), 9);
    }

    private static void zeroAgain() {
        of("where it BREATHES it is 0 again");
        MoleMaps x = Check.mineOf(LINE);
        x.door(1, false);
        x.minutes(1);
        due("one gathered", x.knot(0, 3), 1);
        x.door(1, true);
        x.minutes(1);
        due("from 1", x.knot(0, 3), 0);
        x.door(1, false);
        x.minutes(10);
        due("nine gathered", x.knot(2, 3), 9);
        x.door(1, true);
        due("not before the minute", x.knot(2, 3), 9);
        x.minutes(1);
        due("from 9", x.knot(2, 3), 0);
        due("where it does not", x.knot(3, 3), 9);
        x.door(1, false);
        x.minutes(1);
        due("it begins anew", x.knot(2, 3), 1);
    }

    private static void sixMen() {
        of("MEN (6 at most, numbered)");
        MoleMaps x = Check.mineOf(LINE);
        due("nobody", x.about(0, 0), UNKNOWN);
        for (int man = 0; man < 6; man++) {
            due("his number", x.man(0, 6), man);
            due("he is there", x.about(man, 1), 6);
            due("no other one", x.about(man + 1, 1), UNKNOWN);
        }
        due("a seventh", x.man(0, 6), FULL);
        due("six", x.count(3), 6);
        Check.type(x, LINE);
        x.mine();
        due("the first in another mine", x.man(0, 6), 0);
    }

    private static void eachInAKnot() {
        of("4 CHIEF, each in a KNOT.");
        MoleMaps x = Check.mineOf(LINE);
        int[] at = {6, 0, 6, 3, 1, 2};
        for (int man = 0; man < 6; man++) {
            x.man(man % 5, at[man]);
        }
        for (int man = 0; man < 6; man++) {
            due("the knot of " + man, x.about(man, 1), at[man]);
        }
        due("one walks", x.walk(5, 1), 1);
        for (int man = 0; man < 6; man++) {
            due("the knot of " + man + " then", x.about(man, 1), man == 5 ? 1 : at[man]);
        }
    }

    private static void kindsZeroToFour() {
        of("MEN (6 at most, numbered) are of KINDS: 0 MAN, 1 NOSE, 2 CANARY, 3 BOY, 4 CHIEF");
        MoleMaps x = Check.mineOf(LINE);
        due("below", x.man(-1, 0), OUTSIDE);
        for (int kind = 0; kind <= 4; kind++) {
            due("of kind " + kind, x.man(kind, 0), kind);
            due("his kind", x.about(kind, 0), kind);
        }
        due("above", x.man(5, 0), OUTSIDE);
    }

    private static void chiefIsANose() {
        of("All are MEN; a CHIEF is a NOSE, too.");
        MoleMaps x = Check.mineOf(LINE);
        for (int man = 0; man < 5; man++) {
            x.man(4 - man, 0);
        }
        for (int man = 0; man < 5; man++) {
            for (int kind = 0; kind <= 4; kind++) {
                boolean is = kind == 0 || kind == 4 - man || kind == 1 && man == 0;
                due("as(" + man + ", " + kind + ")", x.as(man, kind), is ? man : NONE);
            }
        }
        due("the chief smells", x.fire(0, 8 + 1), 1);
        due("no other one does", x.fire(0, 16), OUTSIDE);
        due("nor the canary", x.fire(0, 4), OUTSIDE);
        due("nor the boy", x.fire(0, 2), OUTSIDE);
    }

    private static void bearsGas() {
        of("One BEARS GAS up to 4; a CANARY up to 1, a BOY up to 2; a CHIEF up to 6.");
        int[] bears = {4, 4, 1, 2, 6};
        for (int kind = 0; kind <= 4; kind++) {
            MoleMaps x = Check.mineOf(LINE);
            x.man(kind, 3);
            due("kind " + kind + " bears", x.about(0, 3), bears[kind]);
            due("as much as he bears, kind " + kind, x.minutes(bears[kind]), 0);
            due("that is the gas", x.knot(3, 3), bears[kind]);
            due("he is not out, kind " + kind, x.about(0, 2), 0);
            due("one more, kind " + kind, x.minutes(1), 1);
            due("he is out, kind " + kind, x.about(0, 2), 1);
        }
    }

    private static void endOfAMinute() {
        of("Who is where there is more at the end of a minute is OUT");
        MoleMaps x = Check.mineOf(LINE);
        x.minutes(5);
        due("he comes to where it is", x.man(2, 3), 0);
        due("he is not out yet", x.about(0, 2), 0);
        due("he walks", x.walk(0, 2), 2);
        due("to where there is none", x.minutes(1), 0);
        due("and back", x.walk(0, 2), 3);
        due("the minute ends", x.minutes(1), 1);
        MoleMaps blown = Check.mineOf(LINE);
        blown.man(2, 1);
        blown.door(1, false);
        blown.minutes(1);
        blown.door(1, true);
        due("it blows before the minute ends", blown.minutes(1), 0);
    }

    private static void heStays() {
        of("is OUT (he stays)");
        MoleMaps x = Check.mineOf(LINE);
        x.man(2, 1);
        x.door(1, false);
        due("out", x.minutes(2), 1);
        x.door(1, true);
        due("he comes to be it once", x.minutes(60), 0);
        due("there is no gas", x.knot(1, 3), 0);
        due("he stays out", x.about(0, 2), 1);
        due("he stays there", x.about(0, 1), 1);
        due("he walks not", x.walk(0, 0), STATE);
    }

    private static void walksNoMinute() {
        of("WALKS a GALLERY that is open: it takes no minute");
        MoleMaps x = Check.mineOf("019;0515");
        x.man(2, 0);
        x.minutes(1);
        for (int i = 0; i < 20; i++) {
            due("there and back", x.walk(0, 0), 1 - i % 2);
        }
        due("minutes", x.count(5), 1);
        due("gas", x.knot(0, 3), 1);
        due("not out", x.about(0, 2), 0);
    }

    private static void whoIsNotOutWalks() {
        of("A MAN (who is not OUT) WALKS a GALLERY that is open");
        int[] bears = {4, 4, 1, 2, 6};
        for (int kind = 0; kind <= 4; kind++) {
            MoleMaps x = Check.mineOf("011d;0515");
            x.man(kind, 0);
            x.minutes(bears[kind]);
            due("not out yet, kind " + kind, x.walk(0, 0), 1);
            x.minutes(1);
            due("out, kind " + kind, x.walk(0, 0), STATE);
            due("he is where he was, kind " + kind, x.about(0, 1), 1);
        }
    }

    private static void boyWalksShut() {
        of("a BOY, also if its DOOR is shut");
        for (int kind = 0; kind <= 4; kind++) {
            MoleMaps x = Check.mineOf("011d;0910");
            x.man(kind, 1);
            due("open, kind " + kind, x.walk(0, 0), 0);
            x.door(0, false);
            due("shut, kind " + kind, x.walk(0, 0), kind == 3 ? 1 : STATE);
            due("where he is, kind " + kind, x.about(0, 1), kind == 3 ? 1 : 0);
            x.door(0, true);
            due("open again, kind " + kind, x.walk(0, 0), kind == 3 ? 0 : 1);
        }
    }

    // ---- DOORS

    private static void ofDoors() {
        fewestDoors();
        openedOrShut();
        allOfThemBreathe();
        leastBits();
    }

    private static void doorsAre(MoleMaps x, int set, int few, int bits) {
        due("doors(" + set + ", 0)", x.doors(set, 0), few);
        due("doors(" + set + ", 1)", x.doors(set, 1), bits);
    }

    private static MoleMaps allShut(String text) {
        MoleMaps x = Check.mineOf(text);
        for (int g = 0; g < x.count(0); g++) {
            x.door(g, false);
        }
        return x;
    }

    private static void fewestDoors() {
        of("the fewest DOORS to be opened or shut");
        doorsAre(Check.mineOf(STAIRS), 127, 0, 0);
        MoleMaps stairs = allShut("011d,121d,231d,341d,451d,561d;0060");
        doorsAre(stairs, 0, 0, 0);
        doorsAre(stairs, 1, NONE, NONE);
        // By the gallery of the most bits alone, rather than by both of less.
        doorsAre(allShut("021d,211d,011d;0910"), 1, 1, 4);
        MoleMaps steep = allShut("011d,121d,231d,341d,451d,561d;09182736455463");
        doorsAre(steep, 127, 4, 1 + 2 + 8 + 32);
        doorsAre(steep, 64, 1, 32);
        doorsAre(steep, 1, 1, 1);
        // All six must be opened, for 6 is a SHAFT behind all.
        doorsAre(allShut("011d,121d,231d,341d,451d,561d;0960"), 8, 6, 63);
        MoleMaps last = allShut("341,341,341,341,341,341,341,341,341,011d;0910");
        doorsAre(last, 3, 1, 512);
    }

    private static void openedOrShut() {
        of("DOORS to be opened or shut, so that all of them BREATHE");
        // With 0 and 1 as near as each other to 3, shutting makes it lie by 0 alone, unlike 1.
        MoleMaps shut = Check.mineOf("201,211d,401,411,231,341;0910");
        doorsAre(shut, 8, 1, 2);
        due("it was not shut", shut.gallery(1, 4), 1);
        due("nothing breathes by it", shut.knot(3, 2), 0);
        MoleMaps open = allShut("011d;0910");
        doorsAre(open, 3, 1, 1);
        due("it was not opened", open.gallery(0, 4), 0);
        // A gallery without a door is not moved.
        doorsAre(Check.mineOf("011,341;0910"), 8, NONE, NONE);
    }

    private static void allOfThemBreathe() {
        of("DOORS for a set of KNOTS: the fewest DOORS");
        MoleMaps x = allShut("011d,341;0910");
        doorsAre(x, 0, 0, 0);
        doorsAre(x, 1, 1, 1);
        doorsAre(x, 2, 1, 1);
        doorsAre(x, 3, 1, 1);
        doorsAre(x, 8, NONE, NONE);
        doorsAre(x, 1 + 8, NONE, NONE);
        doorsAre(x, 64, NONE, NONE);
        doorsAre(x, 127, NONE, NONE);
        doorsAre(Check.mineOf("011,341;0910"), 3, 0, 0);
        MoleMaps two = allShut("011d,231d;09102930");
        doorsAre(two, 1 + 4, 2, 3);
        doorsAre(two, 15, 2, 3);
        doorsAre(two, 4, 1, 2);
    }

    private static void leastBits() {
        of("of like ones of least bits (GALLERIES)");
        doorsAre(allShut("011d,011d,011d;0910"), 3, 1, 1);
        doorsAre(allShut("561,011d,011d;0910"), 3, 1, 2);
        doorsAre(allShut("011d,231d,231d,011d;09102930"), 15, 2, 3);
        doorsAre(allShut("231d,011,231d,451d;0910293049"), 1 + 4, 1, 1);
        doorsAre(allShut("011d,011d,011d,011d,011d,011d,011d,011d,231d,231d;09102930"), 15, 2, 1 + 256);
    }

    // ---- WAY OUT

    private static void ofWaysOut() {
        inAShaft();
        throughHowMany();
        leastOfThem();
        noneSuch();
    }

    private static void inAShaft() {
        of("WAY OUT of a KNOT: always through the open GALLERY out of which air FLOWS into it (against the wind), the least of them, until it is in a SHAFT");
        MoleMaps x = Check.mineOf("011,231;09104050");
        due("at the upper end", x.wayOut(0), 0);
        due("at the lower end", x.wayOut(1), 0);
        due("without a gallery", x.wayOut(4), 0);
        due("without air", Check.mineOf("011;0919").wayOut(0), 0);
        // 1 is a SHAFT on the way from 2 to 0: there it ends.
        due("the first shaft on the way", Check.mineOf("011,121,231;091531").wayOut(2), 1);
    }

    private static void throughHowMany() {
        of("through how many");
        MoleMaps one = Check.mineOf("011,121;0920");
        due("one", one.wayOut(1), 1);
        one.turn();
        due("one by moon", one.wayOut(1), 1);
        for (int knot = 0; knot <= 6; knot++) {
            int high = (knot + 1) % 7;
            int low = (knot + 2) % 7;
            MoleMaps between = Check.mineOf("" + high + knot + "1," + knot + low + "1;" + high + "9" + low + "0");
            due("one, from between two shafts in " + knot, between.wayOut(knot), 1);
        }
        due("two", Check.mineOf("041,141,451,521,361;091020").wayOut(5), 2);
        // 3 lies at 108, 4 between 3 and 0 at 96, 5 beside 0 at 84, 2 as far from 0 as from 6 at 66, 1 beside 6 at 48.
        MoleMaps four = Check.mineOf("161,121,251,501,541,401,431;640739");
        due("four, from 1", four.wayOut(1), 4);
        due("three, from 2", four.wayOut(2), 3);
        due("two, from 5", four.wayOut(5), 2);
        due("one, from 4", four.wayOut(4), 1);
        four.turn();
        // By moon 1 is the highest of them, as high as 6: all ways against the wind end there.
        for (int knot : new int[] {1, 2, 5, 4}) {
            due("none by moon, from " + knot, four.wayOut(knot), NONE);
        }
    }

    private static void leastOfThem() {
        of("always through the open GALLERY out of which air FLOWS into it (against the wind), the least of them");
        due("the least leads to nowhere", Check.mineOf("618,242,468,145;1827").wayOut(4), NONE);
        due("the least leads out", Check.mineOf("145,618,242,468;1827").wayOut(4), 1);
        // 6 lies behind 3; of the galleries into 3 the least comes from the SHAFT 2, the last one from 4.
        due("the least of the second step, too", Check.mineOf("231,561,341,541,531,141,361,351;195022").wayOut(6), 2);
        // 3 lies behind 6; the least gallery into 6 comes from 5, the other one from the SHAFT 4.
        due("be it the longer way", Check.mineOf("651,511,641,451,301,631,601,521;290044").wayOut(3), 3);
    }

    private static void noneSuch() {
        of("none, if there is none such");
        MoleMaps x = Check.mineOf(LINE);
        due("where no air flows in", x.wayOut(3), NONE);
        due("where it is still", x.wayOut(6), NONE);
        x.door(1, false);
        due("behind a shut door", x.wayOut(1), NONE);
        // Air flows out of 1 alone: it lies above 2, beside 0 of like height.
        due("where air flows out alone", Check.mineOf("011,131,321;0920").wayOut(1), NONE);
        // Of a larger mine that was read before, where air flowed from 3 to 4, nothing is left.
        MoleMaps again = Check.mineOf("341,341,341,351d,361;3940");
        due("in the larger mine", again.smelt(3, 4), 1);
        Check.type(again, "561,011;0039");
        again.mine();
        due("no flow in a smaller mine", again.wayOut(4), NONE);
        due("nor smoke", again.smelt(3, 4), NONE);
    }

    // ---- FIRE

    private static void ofFires() {
        allKnotsWithoutNoses();
        soManyMinutesAgo();
        allOtherNoses();
        outToo();
        airAsItIs();
        fromWhereTheyAre();
    }

    private static void allKnotsWithoutNoses() {
        of("FIRE: all KNOTS in which a FIRE could be");
        MoleMaps x = Check.mineOf(LINE);
        due("nobody", x.fire(0, 0), 127);
        due("nobody, behind 60", x.fire(60, 0), 127);
        x.man(0, 0);
        x.man(2, 1);
        x.man(3, 2);
        due("nobody who smells", x.fire(60, 0), 127);
        x.man(1, 6);
        due("a nose in 6 smells it there", x.fire(0, 8), 64);
        due("or not", x.fire(60, 0), 63);
        x.man(4, 0);
        due("in none", x.fire(60, 24), 0);
    }

    private static void soManyMinutesAgo() {
        of("a FIRE could be that began so many minutes ago");
        MoleMaps x = Check.mineOf(STAIRS);
        x.man(1, 6);
        due("behind 0", x.fire(0, 1), 64);
        for (int steps = 1; steps <= 6; steps++) {
            int before = 127 & ~((1 << 7 - steps) - 1);
            due("a minute before " + 9 * steps, x.fire(9 * steps - 1, 1), before);
            due("behind " + 9 * steps, x.fire(9 * steps, 1), before | 1 << 6 - steps);
            due("not, a minute before " + 9 * steps, x.fire(9 * steps - 1, 0), 127 & ~before);
        }
        due("behind 60", x.fire(60, 1), 127);
        due("not behind 60", x.fire(60, 0), 0);
    }

    private static void allOtherNoses() {
        of("if told NOSES (a set of MEN) smell it by now, and all other NOSES");
        MoleMaps x = Check.mineOf(LINE);
        x.man(1, 1);
        x.man(1, 2);
        due("both", x.fire(60, 3), 1 + 2);
        due("the first alone", x.fire(60, 1), 0);
        due("the second alone", x.fire(60, 2), 4);
        due("neither", x.fire(60, 0), 8 + 16 + 32 + 64);
        for (int man = 2; man < 6; man++) {
            x.man(4, 3);
        }
        due("six, of them the last four", x.fire(60, 60), 8);
        due("three of the last four", x.fire(60, 28), 0);
        due("all six", x.fire(60, 63), 0);
        Check.type(x, LINE);
        x.mine();
        due("those of another mine are none", x.fire(60, 0), 127);
        due("and can not be told", x.fire(60, 1), OUTSIDE);
        x.man(0, 0);
        due("nor by one who came since", x.fire(60, 2), OUTSIDE);
        due("none is there", x.fire(60, 0), 127);
    }

    private static void outToo() {
        of("all other NOSES (who are OUT, too) do not");
        MoleMaps x = Check.mineOf(LINE);
        x.man(1, 4);
        x.minutes(4);
        due("not out", x.fire(9, 0), 127 - 16);
        x.minutes(1);
        due("he is out", x.about(0, 2), 1);
        due("out, he smells it not", x.fire(9, 0), 127 - 16);
        due("out, he smells it", x.fire(9, 1), 16);
    }

    private static void airAsItIs() {
        of("(by AIR as it is, from where they are)");
        MoleMaps x = Check.mineOf(LINE);
        x.man(1, 2);
        x.minutes(60);
        due("by day", x.fire(60, 1), 1 + 2 + 4);
        x.turn();
        due("by moon", x.fire(60, 1), 4);
        x.turn();
        x.door(1, false);
        due("behind a shut door", x.fire(60, 1), 4);
        x.door(1, true);
        due("behind an open one", x.fire(60, 1), 1 + 2 + 4);
    }

    private static void fromWhereTheyAre() {
        of("from where they are)");
        MoleMaps x = Check.mineOf(LINE);
        x.man(4, 2);
        due("from 2", x.fire(6, 1), 1 + 2 + 4);
        x.walk(0, 1);
        due("from 1", x.fire(6, 1), 1 + 2);
        x.walk(0, 0);
        due("from 0", x.fire(6, 1), 1);
    }

    // ---- NEXT

    private static void ofNext() {
        fewestAtWorst();
        likeOnesTheLeast();
    }

    private static void fewestAtWorst() {
        of("the KNOT at which one NOSE more would leave fewest of these at worst (smelt or not)");
        MoleMaps x = Check.mineOf(STAIRS);
        // A NOSE in 6 smells a FIRE in it and in each from which smoke comes by then: halves are 3 and 4.
        due("behind 27", x.next(27, 0), 2);
        due("behind 18", x.next(18, 0), 2);
        due("behind 17", x.next(17, 0), 1);
        due("behind 54", x.next(54, 0), 2);
        x.man(1, 3);
        // Smelt behind 54, it is in 0 to 3; not smelt, it is in 4, 5 or 6.
        due("smelt", x.next(54, 1), 1);
        due("not smelt", x.next(54, 0), 4);
        MoleMaps apart = Check.mineOf("301;3900");
        apart.man(1, 0);
        // Not smelt in 0 it is in 1, 2, 4, 5 or 6: a NOSE smells one of these, where it stands.
        due("no knot is better than one of five", apart.next(1, 0), 1);
        MoleMaps six = Check.mineOf("061,161,261;09192960");
        // 0, 1, 2 and 6 are smelt in 6, four of seven; elsewhere one.
        due("in the last knot", six.next(1, 0), 6);
        due("a minute before", six.next(0, 0), 0);
        MoleMaps fromSix = Check.mineOf("601,611,621;69001020");
        // 6 is smelt in 0, 1 and 2, besides what is there: two of seven in each.
        due("of a fire in the last knot", fromSix.next(1, 0), 0);
        fromSix.man(1, 1);
        due("of 1 and 6", fromSix.next(1, 1), 0);
        due("of neither", fromSix.next(1, 0), 0);
    }

    private static void likeOnesTheLeast() {
        of("NEXT: the KNOT at which one NOSE more would leave fewest of these at worst (smelt or not); of like ones the least.");
        MoleMaps x = Check.mineOf(LINE);
        due("each leaves six", x.next(0, 0), 0);
        x.man(1, 0);
        due("of six each but 0 leaves five", x.next(0, 0), 1);
        due("one is left", x.next(0, 1), 0);
        x.man(1, 1);
        due("none is left", x.next(0, 3), 0);
        for (int knot = 2; knot < 6; knot++) {
            x.man(4, knot);
        }
        due("the last one is left", x.next(0, 0), 0);
    }

    // ---- RESCUE

    private static void ofRescue() {
        emptyAndFull();
        leastLengthEach();
        gasAndOne();
        firstByNumbers();
        someCanNot();
    }

    private static void rescueIs(MoleMaps x, int from, int set, int risk, int... order) {
        due("rescue(" + from + ", " + set + ", 0)", x.rescue(from, set, 0), risk);
        for (int i = 0; i < 5; i++) {
            int want = i < order.length ? order[i] : NONE;
            due("rescue(" + from + ", " + set + ", " + (10 + i) + ")", x.rescue(from, set, 10 + i), want);
        }
    }

    private static void emptyAndFull() {
        of("RESCUE: an order in which all KNOTS of a set are come to, one after the other, from a KNOT");
        MoleMaps x = Check.mineOf("011,121,231,341,451,561;0969");
        rescueIs(x, 3, 0, 0);
        rescueIs(x, 3, 8, 0, 3);
        rescueIs(x, 6, 64, 0, 6);
        rescueIs(x, 0, 64, 6, 6);
        rescueIs(x, 6, 1, 6, 0);
        rescueIs(x, 0, 62, 1 + 2 + 3 + 4 + 5, 1, 2, 3, 4, 5);
        rescueIs(x, 6, 124, 0 + 1 + 2 + 3 + 4, 6, 5, 4, 3, 2);
        rescueIs(x, 6, 31, 2 + 3 + 4 + 5 + 6, 4, 3, 2, 1, 0);
        // A smaller set behind a larger one.
        rescueIs(x, 6, 3, 5 + 6, 1, 0);
        rescueIs(x, 4, 7, 2 + 3 + 4, 2, 1, 0);
        due("six of a set", x.rescue(0, 63, 0), OUTSIDE);
    }

    private static void leastLengthEach() {
        of("by ways through open GALLERIES of least LENGTH each");
        rescueIs(Check.mineOf("019,061,611;0919"), 0, 2, 2, 1);
        rescueIs(Check.mineOf("012,061,611;0919"), 0, 2, 2, 1);
        rescueIs(Check.mineOf("011,061,611;0919"), 0, 2, 1, 1);
        rescueIs(Check.mineOf("019,018,013;0919"), 0, 2, 3, 1);
        // Still air hinders nobody, nor does the wind.
        rescueIs(Check.mineOf("011;0910"), 1, 1, 1, 0);
        MoleMaps far = Check.mineOf("019,129,239,349,459,569;0919");
        rescueIs(far, 0, 64, 54, 6);
        MoleMaps door = Check.mineOf("019,021d,211;0919");
        rescueIs(door, 0, 2, 2, 1);
        door.door(1, false);
        rescueIs(door, 0, 2, 9, 1);
        rescueIs(door, 0, 4, 10, 2);
    }

    private static void gasAndOne() {
        of("risk: for each KNOT of the set its GAS and 1, times all LENGTH up to it, together");
        MoleMaps x = Check.mineOf("013,121;0919");
        rescueIs(x, 0, 6, 3 + 4, 1, 2);
        x.minutes(1);
        rescueIs(x, 0, 6, 2 * 3 + 2 * 4, 1, 2);
        x.minutes(60);
        rescueIs(x, 0, 6, 10 * 3 + 10 * 4, 1, 2);
        rescueIs(x, 0, 7, 10 * 3 + 10 * 4, 0, 1, 2);
        // The dearest of all: nine times the longest way, in five KNOTS.
        MoleMaps star = Check.mineOf("019,029,039,049,059;0919");
        star.minutes(9);
        rescueIs(star, 0, 62, 10 * (9 + 27 + 45 + 63 + 81), 1, 2, 3, 4, 5);
        // 3 holds gas, 1 does not: the farther one comes first.
        MoleMaps gas = Check.mineOf("014,235,122d;0920");
        gas.minutes(9);
        rescueIs(gas, 2, 10, 10 * 5 + 12, 3, 1);
    }

    private static void firstByNumbers() {
        of("the order of least risk, of like ones the first by numbers");
        rescueIs(Check.mineOf("032,042;0919"), 0, 24, 2 + 6, 3, 4);
        rescueIs(Check.mineOf("042,032;0919"), 0, 24, 2 + 6, 3, 4);
        rescueIs(Check.mineOf("033,042;0919"), 0, 24, 2 + 7, 4, 3);
        // From 3, with 2 and 4 at 1, 1 and 5 behind these.
        rescueIs(Check.mineOf("321,341,211,451;0919"), 3, 54, 1 + 2 + 5 + 6, 2, 1, 4, 5);
        rescueIs(Check.mineOf("061,161,261,361,461;0919"), 6, 31, 1 + 3 + 5 + 7 + 9, 0, 1, 2, 3, 4);
    }

    private static void someCanNot() {
        of("in which all KNOTS of a set are come to");
        MoleMaps x = Check.mineOf("011,231,451d;0919");
        rescueIs(x, 0, 4, NONE, NONE, NONE, NONE, NONE, NONE);
        rescueIs(x, 0, 12, NONE, NONE, NONE, NONE, NONE, NONE);
        rescueIs(x, 0, 3 + 64, NONE, NONE, NONE, NONE, NONE, NONE);
        rescueIs(x, 4, 32, 1, 5);
        x.minutes(3);
        rescueIs(x, 0, 4, NONE);
        rescueIs(x, 0, 12, NONE);
        x.door(2, false);
        rescueIs(x, 4, 32, NONE);
        rescueIs(x, 4, 16, 0, 4);
        rescueIs(x, 6, 0, 0);
    }

    // ---- WALKS

    private static void ofWalks() {
        asTheyWouldBe();
        drawsWrap();
        drawOfMen();
        noMenNoDraw();
        outWalksNot();
        boyJustSo();
        drawOfGalleries();
        noGalleryNoDraw();
        thenAMinute();
    }

    private static void asTheyWouldBe() {
        of("WALKS by a SEED, as they would be");
        MoleMaps x = Check.mineOf("011;0910");
        x.man(0, 1);
        x.man(2, 6);
        x.minutes(1);
        x.image();
        long before = x.digest();
        for (int what = 0; what <= 3; what++) {
            due("walks(60, 5, " + what + ") once more", x.walks(60, 5, what), x.walks(60, 5, what));
            due("nothing is so behind walks(60, 5, " + what + ")", x.digest(), before);
        }
        due("the canary would be out", x.walks(60, 5, 0), 1);
        x.minutes(60);
        due("the image is as it was", x.restore(), 1);
        due("and all that it keeps", x.digest(), before);
    }

    private static int seedBehind(long seed, int draws) {
        BigInteger s = BigInteger.valueOf(seed);
        for (int i = 0; i < draws; i++) {
            s = s.multiply(BigInteger.valueOf(1103515245)).add(BigInteger.valueOf(12345)).mod(BigInteger.TWO.pow(31));
        }
        return s.intValueExact();
    }

    private static int draw(long seed, int which, int many) {
        return seedBehind(seed, which) / 65536 % many;
    }

    private static void drawsWrap() {
        of("DRAWS: the next SEED each time: 1103515245 times it and 12345, its rest by 2 to the 31");
        MoleMaps x = Check.mineOf("011;0910");
        x.man(0, 0);
        for (int seed : new int[] {0, 1, 2, 65535, 65536, 1 << 30, MOST - 1, MOST}) {
            due("once from " + seed, x.walks(1, seed, 3), seedBehind(seed, 2));
            due("sixty times from " + seed, x.walks(60, seed, 3), seedBehind(seed, 120));
        }
        // Rests by 2 to the 31 of products that pass it but once, and many times.
        due("from 0", x.walks(1, 0, 3), (int) ((1103515245L * 12345 + 12345) % (1L << 31)));
    }

    private static void drawOfMen() {
        of("then that by 65536 (rounded down), its rest");
        for (int men = 1; men <= 6; men++) {
            MoleMaps x = Check.mineOf("011;0910");
            for (int man = 0; man < men; man++) {
                x.man(4, 0);
            }
            for (int seed : new int[] {0, 1, 5, 77, 4096, 99999, MOST}) {
                due("whether man 0 walks of " + men, x.walks(1, seed, 1), draw(seed, 1, men) == 0 ? 1 : 0);
            }
        }
    }

    private static void noMenNoDraw() {
        of("so many times a MAN by a DRAW of how many there are (none: nothing is drawn)");
        MoleMaps x = Check.mineOf("011,341;0910");
        for (int seed : new int[] {0, 1, MOST}) {
            due("the seed of nobody", x.walks(60, seed, 3), seed);
        }
        due("nobody is out", x.walks(60, 1, 0), 0);
        due("there is no man 0", x.walks(60, 1, 1), NONE);
        due("the minutes go by", x.walks(1, 1, 2), 5);
        x.man(0, 0);
        due("of one it is drawn", x.walks(1, 1, 3), seedBehind(1, 2));
    }

    private static void outWalksNot() {
        of("if he is not OUT, walks an open GALLERY");
        MoleMaps x = Check.mineOf("011,341;0910");
        x.man(2, 3);
        x.minutes(1);
        due("he walks before it", x.walks(1, 7, 1), 4);
        due("and is out behind it", x.walks(1, 7, 0), 1);
        due("he walks not again", x.walks(2, 7, 1), 4);
        due("three draws", x.walks(2, 7, 3), seedBehind(7, 3));
        x.minutes(1);
        due("he is out", x.about(0, 2), 1);
        due("out he is drawn alone", x.walks(5, 7, 3), seedBehind(7, 5));
        due("and stays", x.walks(5, 7, 1), 3);
    }

    private static void boyJustSo() {
        of("walks an open GALLERY (a BOY just so) of those at his KNOT");
        MoleMaps x = Check.mineOf("121d,131;0919");
        x.man(3, 1);
        x.door(0, false);
        for (int seed = 0; seed < 50; seed++) {
            due("by the open one", x.walks(1, seed, 1), 3);
        }
        x.door(0, true);
        for (int seed = 0; seed < 50; seed++) {
            due("by either", x.walks(1, seed, 1), 2 + draw(seed, 2, 2));
        }
    }

    private static void drawOfGalleries() {
        of("of those at his KNOT (by number) by a DRAW of how many there are");
        MoleMaps x = Check.mineOf("101,561,201,301,401d,501,121,061,131,141;0919");
        x.man(0, 0);
        int[] to = {1, 2, 3, 4, 5, 6};
        for (int seed = 0; seed < 60; seed++) {
            due("of six", x.walks(1, seed, 1), to[draw(seed, 2, 6)]);
        }
        x.door(4, false);
        int[] open = {1, 2, 3, 5, 6};
        for (int seed = 0; seed < 60; seed++) {
            due("of five", x.walks(1, seed, 1), open[draw(seed, 2, 5)]);
        }
        MoleMaps ten = Check.mineOf("011,021,011,021,011,021,011,021,011,021;0919");
        ten.man(0, 0);
        for (int seed = 0; seed < 60; seed++) {
            due("of ten", ten.walks(1, seed, 1), 1 + draw(seed, 2, 10) % 2);
        }
    }

    private static void noGalleryNoDraw() {
        of("by a DRAW of how many there are (none: nothing is drawn); then a minute goes by");
        MoleMaps x = Check.mineOf("011d,341;0910");
        x.man(0, 6);
        due("no gallery there", x.walks(1, 3, 3), seedBehind(3, 1));
        due("he stays", x.walks(60, 3, 1), 6);
        due("a draw each time", x.walks(60, 3, 3), seedBehind(3, 60));
        MoleMaps shut = Check.mineOf("011d;0910");
        shut.man(3, 0);
        shut.door(0, false);
        due("a shut one alone", shut.walks(1, 3, 3), seedBehind(3, 1));
        shut.door(0, true);
        due("one of one is drawn", shut.walks(1, 3, 3), seedBehind(3, 2));
    }

    private static void thenAMinute() {
        of("then a minute goes by.");
        MoleMaps x = Check.mineOf("011;0515");
        x.man(2, 0);
        due("gas behind one", x.walks(1, 1, 2), 7);
        due("gas behind two", x.walks(2, 1, 2), 14);
        due("gas behind nine", x.walks(9, 1, 2), 63);
        due("gas behind ten", x.walks(10, 1, 2), 63);
        due("not out behind one", x.walks(1, 1, 0), 0);
        due("out behind two", x.walks(2, 1, 0), 1);
        due("he has walked before the minute ended", x.walks(2, 1, 1), 0);
        due("out, he stays", x.walks(3, 1, 1), 0);
        due("no minute has gone", x.count(5), 0);
        due("no gas has gathered", x.knot(0, 3), 0);
        due("he is where he was", x.about(0, 1), 0);
    }

    // ---- IMAGES

    private static void ofImages() {
        keepsDoors();
        keepsDayOrMoon();
        keepsGas();
        keepsWhereMenAre();
        keepsWhoIsOut();
        keepsMinutes();
        keepsNothingElse();
    }

    private static void keepsDoors() {
        of("An IMAGE keeps DOORS");
        MoleMaps x = Check.mineOf("011d,121d,231d;0930");
        x.door(1, false);
        x.image();
        x.door(0, false);
        x.door(1, true);
        x.restore();
        due("open", x.gallery(0, 4), 1);
        due("shut", x.gallery(1, 4), 0);
        due("not moved", x.gallery(2, 4), 1);
        due("air behind the shut one", x.knot(2, 1), 0);
        due("no flow there", x.gallery(1, 5), NONE);
        due("no smoke there", x.smelt(1, 2), NONE);
    }

    private static void keepsDayOrMoon() {
        of("keeps DOORS, DAY or MOON");
        MoleMaps x = Check.mineOf("011;0910");
        x.image();
        x.turn();
        x.restore();
        due("day", x.count(4), 0);
        due("air of the day", x.gallery(0, 5), 1);
        x.turn();
        x.image();
        x.turn();
        x.restore();
        due("moon", x.count(4), 1);
        due("air by moon", x.gallery(0, 5), 0);
        due("smoke by moon", x.smelt(1, 0), 1);
    }

    private static void keepsGas() {
        of("DAY or MOON, GAS, where MEN are");
        MoleMaps x = Check.mineOf(LINE);
        x.door(1, false);
        x.minutes(4);
        x.image();
        x.door(1, true);
        x.minutes(1);
        due("gone there", x.knot(0, 3), 0);
        due("more there", x.knot(6, 3), 5);
        x.restore();
        for (int knot = 0; knot <= 6; knot++) {
            due("gas of " + knot, x.knot(knot, 3), 4);
        }
    }

    private static void keepsWhereMenAre() {
        of("where MEN are, who is OUT");
        MoleMaps x = Check.mineOf("011;0910");
        for (int man = 0; man < 6; man++) {
            x.man(0, man % 2);
        }
        x.image();
        for (int man = 0; man < 6; man++) {
            x.walk(man, 0);
        }
        x.restore();
        for (int man = 0; man < 6; man++) {
            due("man " + man, x.about(man, 1), man % 2);
        }
    }

    private static void keepsWhoIsOut() {
        of("who is OUT, minutes.");
        MoleMaps x = Check.mineOf("011,341;0910");
        x.man(2, 3);
        x.man(3, 4);
        x.minutes(2);
        x.image();
        due("the boy, too", x.minutes(1), 1);
        x.restore();
        due("the canary", x.about(0, 2), 1);
        due("the boy is not", x.about(1, 2), 0);
        due("he can be once more", x.minutes(1), 1);
    }

    private static void keepsMinutes() {
        of("An IMAGE keeps DOORS, DAY or MOON, GAS, where MEN are, who is OUT, minutes.");
        MoleMaps x = Check.mineOf(LINE);
        due("kept at once", x.image(), 0);
        x.minutes(60);
        due("from the first minute", x.restore(), 0);
        due("minutes", x.count(5), 0);
        x.minutes(60);
        due("kept behind 60", x.image(), 60);
        x.minutes(1);
        due("from the latest", x.restore(), 60);
        due("minutes of the latest", x.count(5), 60);
    }

    private static void keepsNothingElse() {
        of("An IMAGE keeps DOORS, DAY or MOON, GAS, where MEN are, who is OUT, minutes.");
        MoleMaps x = Check.mineOf(LINE);
        x.image();
        x.letters(Check.letters("xyz"));
        x.doors(1, 0);
        x.restore();
        due("letters come since stay", x.count(6), 3);
        due("doors() done since is done", x.count(8), 1);
        due("mines read", x.count(7), 1);
    }
}
