/** Maps for moles: a mine, the air and the men in it, and what would be. */
public final class MoleMaps {
    public static final int NONE = -1, UNKNOWN = -101, OUTSIDE = -102, STATE = -103, FULL = -104;

    private static final int KNOTS = 7;
    private static final int MOST_LETTERS = 66;
    private static final int MOST_GALLERIES = 10;
    private static final int MOST_MEN = 6;
    private static final int MOST_MINUTES = 60;
    private static final int MOST_GAS = 9;
    private static final int MOST_RESCUED = 5;
    private static final int MOST_DOORS_DONE = 40;
    private static final int FIRST_OF_ORDER = 10;

    private final Page page;
    private final Plan plan;
    private final Air air;
    private final Air trial;
    private final Table smoke;
    private final Crew crew;
    private final Moment now;
    private final Moment kept;
    private final Moment dream;
    private final Draws draws;
    private final Rescue rescuers;
    private int minesRead;
    private int doorsDone;
    // NONE stands for no IMAGE: no reading of a MINE bears that number.
    private int keptMine;
    private int keptMen;

    public MoleMaps() {
        page = new Page();
        plan = new Plan();
        air = new Air();
        trial = new Air();
        smoke = new Table();
        crew = new Crew();
        now = new Moment();
        kept = new Moment();
        dream = new Moment();
        draws = new Draws();
        rescuers = new Rescue();
        keptMine = NONE;
    }

    // ---- the mine

    public int letters(long w) {
        int many = Page.lettersIn(w);
        if (many == NONE) {
            return OUTSIDE;
        }
        if (page.length + many > MOST_LETTERS) {
            return FULL;
        }
        page.append(w, many);
        return page.length;
    }

    public int blank() {
        int had = page.length;
        page.length = 0;
        return had;
    }

    public int fault() {
        return page.firstFault();
    }

    public int mine() {
        if (!page.isMine()) {
            return STATE;
        }
        plan.readFrom(page);
        page.length = 0;
        crew.size = 0;
        now.begin(plan.allGalleries());
        minesRead++;
        windChanges();
        return plan.galleries;
    }

    public int gallery(int gallery, int what) {
        if (!plan.hasGallery(gallery)) {
            return UNKNOWN;
        }
        switch (what) {
            case 0:
                return plan.one.get(gallery);
            case 1:
                return plan.two.get(gallery);
            case 2:
                return plan.length.get(gallery);
            case 3:
                return bit(plan.doors, gallery);
            case 4:
                return bit(now.open, gallery);
            case 5:
                return air.into.get(gallery);
            default:
                return OUTSIDE;
        }
    }

    public int knot(int knot, int what) {
        if (!plan.isRead() || !isKnot(knot)) {
            return UNKNOWN;
        }
        switch (what) {
            case 0:
                return plan.draught.get(knot);
            case 1:
                return air.height.get(knot);
            case 2:
                return bit(air.breathing, knot);
            case 3:
                return now.gas.get(knot);
            default:
                return OUTSIDE;
        }
    }

    public int door(int gallery, boolean open) {
        if (!plan.hasGallery(gallery)) {
            return UNKNOWN;
        }
        if (bit(plan.doors, gallery) == 0) {
            return STATE;
        }
        int was = bit(now.open, gallery);
        now.open = open ? now.open | 1 << gallery : now.open & ~(1 << gallery);
        windChanges();
        return was;
    }

    public int turn() {
        if (!plan.isRead()) {
            return STATE;
        }
        now.moon = !now.moon;
        windChanges();
        return now.moon ? 1 : 0;
    }

    // ---- men

    public int man(int kind, int knot) {
        if (!plan.isRead()) {
            return STATE;
        }
        if (!Crew.isKind(kind)) {
            return OUTSIDE;
        }
        if (!isKnot(knot)) {
            return UNKNOWN;
        }
        if (crew.size >= MOST_MEN) {
            return FULL;
        }
        int man = crew.size;
        crew.kinds.set(man, kind);
        crew.size++;
        now.place.set(man, knot);
        return man;
    }

    public int about(int man, int what) {
        if (!crew.has(man)) {
            return UNKNOWN;
        }
        switch (what) {
            case 0:
                return crew.kinds.get(man);
            case 1:
                return now.place.get(man);
            case 2:
                return bit(now.out, man);
            case 3:
                return crew.bears(man);
            default:
                return OUTSIDE;
        }
    }

    public int as(int man, int kind) {
        if (!crew.has(man)) {
            return UNKNOWN;
        }
        if (!Crew.isKind(kind)) {
            return OUTSIDE;
        }
        return crew.isOf(man, kind) ? man : NONE;
    }

    public int walk(int man, int gallery) {
        if (!crew.has(man) || !plan.hasGallery(gallery)) {
            return UNKNOWN;
        }
        int from = now.place.get(man);
        boolean shut = bit(now.open, gallery) == 0 && !crew.isOf(man, Crew.BOY);
        if (bit(now.out, man) == 1 || !plan.isAt(gallery, from) || shut) {
            return STATE;
        }
        int to = plan.otherEnd(gallery, from);
        now.place.set(man, to);
        return to;
    }

    public int minutes(int minutes) {
        if (minutes < 1 || minutes > MOST_MINUTES) {
            return OUTSIDE;
        }
        if (!plan.isRead()) {
            return STATE;
        }
        int before = Integer.bitCount(now.out);
        for (int i = 0; i < minutes; i++) {
            now.passMinute(crew, air.breathing);
        }
        return Integer.bitCount(now.out) - before;
    }

    // ---- what would be

    public int smelt(int fire, int knot) {
        if (!plan.isRead()) {
            return STATE;
        }
        if (!isKnot(fire) || !isKnot(knot)) {
            return UNKNOWN;
        }
        return smoke.between(fire, knot);
    }

    public int doors(int set, int what) {
        if (!plan.isRead()) {
            return STATE;
        }
        if (!isKnotSet(set) || what < 0 || what > 1) {
            return OUTSIDE;
        }
        if (doorsDone >= MOST_DOORS_DONE) {
            return STATE;
        }
        doorsDone++;
        int moved = fewestDoors(set);
        return moved == NONE || what == 1 ? moved : Integer.bitCount(moved);
    }

    public int wayOut(int knot) {
        if (!plan.isRead()) {
            return STATE;
        }
        if (!isKnot(knot)) {
            return UNKNOWN;
        }
        int at = knot;
        // Height grows with each step, so that no way has more steps than there are KNOTS.
        for (int steps = 0; steps < KNOTS; steps++) {
            if (plan.isShaft(at)) {
                return steps;
            }
            int gallery = air.firstInto(plan, at);
            if (gallery == NONE) {
                return NONE;
            }
            at = plan.otherEnd(gallery, at);
        }
        return NONE;
    }

    public int fire(int minutes, int set) {
        if (!plan.isRead()) {
            return STATE;
        }
        if (!isNoseTale(minutes, set)) {
            return OUTSIDE;
        }
        return possibleFires(minutes, set);
    }

    public int next(int minutes, int set) {
        if (!plan.isRead()) {
            return STATE;
        }
        if (!isNoseTale(minutes, set)) {
            return OUTSIDE;
        }
        int fires = possibleFires(minutes, set);
        int best = 0;
        int fewest = KNOTS + 1;
        for (int knot = 0; knot < KNOTS; knot++) {
            int smeltHere = Integer.bitCount(fires & firesSmelt(knot, minutes));
            int worst = Math.max(smeltHere, Integer.bitCount(fires) - smeltHere);
            if (worst < fewest) {
                fewest = worst;
                best = knot;
            }
        }
        return best;
    }

    public int rescue(int from, int set, int what) {
        if (!plan.isRead()) {
            return STATE;
        }
        if (!isKnot(from)) {
            return UNKNOWN;
        }
        int place = what - FIRST_OF_ORDER;
        boolean isPlace = what >= FIRST_OF_ORDER && place < MOST_RESCUED;
        if (!isKnotSet(set) || Integer.bitCount(set) > MOST_RESCUED || (what != 0 && !isPlace)) {
            return OUTSIDE;
        }
        rescuers.findBest(plan, now, from, set);
        if (rescuers.leastRisk == NONE || what == 0) {
            return rescuers.leastRisk;
        }
        return place < Integer.bitCount(set) ? rescuers.best.get(place) : NONE;
    }

    public int walks(int times, int seed, int what) {
        if (!plan.isRead()) {
            return STATE;
        }
        if (times < 1 || times > MOST_MINUTES || seed < 0 || what < 0 || what > 3) {
            return OUTSIDE;
        }
        dream.copyFrom(now);
        draws.seed = seed;
        for (int i = 0; i < times; i++) {
            dreamWalk();
            dream.passMinute(crew, air.breathing);
        }
        switch (what) {
            case 0:
                return Integer.bitCount(dream.out);
            case 1:
                return crew.has(0) ? dream.place.get(0) : NONE;
            case 2:
                return dream.gas.sum();
            default:
                return draws.seed;
        }
    }

    // ---- what is told of all

    public int image() {
        if (!plan.isRead()) {
            return STATE;
        }
        kept.copyFrom(now);
        keptMine = minesRead;
        keptMen = crew.size;
        return now.gone;
    }

    public int restore() {
        if (keptMine != minesRead || keptMen != crew.size) {
            return STATE;
        }
        now.copyFrom(kept);
        windChanges();
        return now.gone;
    }

    public int count(int what) {
        switch (what) {
            case 0:
                return plan.galleries;
            case 1:
                return Integer.bitCount(plan.doors);
            case 2:
                return Integer.bitCount(plan.shafts);
            case 3:
                return crew.size;
            case 4:
                return now.moon ? 1 : 0;
            case 5:
                return now.gone;
            case 6:
                return page.length;
            case 7:
                return minesRead;
            case 8:
                return doorsDone;
            default:
                return OUTSIDE;
        }
    }

    public long digest() {
        long h = 659;
        for (int i = 0; i < plan.galleries; i++) {
            for (int what = 0; what <= 5; what++) {
                h = 31 * h + gallery(i, what);
            }
        }
        for (int i = 0; i < KNOTS && plan.isRead(); i++) {
            for (int what = 0; what <= 3; what++) {
                h = 31 * h + knot(i, what);
            }
            h = 31 * h + smelt(i, 0);
            h = 31 * h + wayOut(i);
        }
        for (int i = 0; i < crew.size; i++) {
            for (int what = 0; what <= 3; what++) {
                h = 31 * h + about(i, what);
            }
        }
        for (int i = 0; i < page.length; i++) {
            h = 31 * h + page.letters.get(i);
        }
        for (int what = 0; what <= 8; what++) {
            h = 31 * h + count(what);
        }
        return h;
    }

    private static boolean isKnot(int knot) {
        return knot >= 0 && knot < KNOTS;
    }

    private static boolean isKnotSet(int set) {
        return set >= 0 && set < 1 << KNOTS;
    }

    private static int bit(int bits, int place) {
        return bits >> place & 1;
    }

    private void windChanges() {
        air.blow(plan, now.open, now.moon);
        air.carrySmoke(plan, smoke);
    }

    private int fewestDoors(int set) {
        int best = NONE;
        // By rising bits, so that of like ones the least is the first.
        for (int moved = 0; moved <= plan.doors; moved++) {
            boolean doorsAlone = (moved & ~plan.doors) == 0;
            boolean fewer = best == NONE || Integer.bitCount(moved) < Integer.bitCount(best);
            if (doorsAlone && fewer && letsBreathe(moved, set)) {
                best = moved;
            }
        }
        return best;
    }

    private boolean letsBreathe(int moved, int set) {
        trial.blow(plan, now.open ^ moved, now.moon);
        return (set & ~trial.breathing) == 0;
    }

    private boolean isNoseTale(int minutes, int set) {
        return minutes >= 0 && minutes <= MOST_MINUTES && (set & ~crew.noses()) == 0;
    }

    private int possibleFires(int minutes, int set) {
        int fires = (1 << KNOTS) - 1;
        for (int man = 0; man < crew.size; man++) {
            if (crew.isOf(man, Crew.NOSE)) {
                int smelt = firesSmelt(now.place.get(man), minutes);
                fires &= bit(set, man) == 1 ? smelt : ~smelt;
            }
        }
        return fires;
    }

    private int firesSmelt(int knot, int minutes) {
        int fires = 0;
        for (int fire = 0; fire < KNOTS; fire++) {
            int behind = smoke.between(fire, knot);
            if (behind != NONE && behind <= minutes) {
                fires |= 1 << fire;
            }
        }
        return fires;
    }

    private void dreamWalk() {
        if (crew.size == 0) {
            return;
        }
        int man = draws.draw(crew.size);
        if (bit(dream.out, man) == 1) {
            return;
        }
        int at = dream.place.get(man);
        int ways = plan.galleriesAt(at, dream.open);
        if (ways == 0) {
            return;
        }
        int gallery = placeOfBit(ways, draws.draw(Integer.bitCount(ways)));
        dream.place.set(man, plan.otherEnd(gallery, at));
    }

    private static int placeOfBit(int bits, int which) {
        int left = bits;
        for (int i = 0; i < which; i++) {
            left &= left - 1;
        }
        return Integer.numberOfTrailingZeros(left);
    }

    /** Numbers in a row; a place that is none holds 0 and keeps nothing, so that no index fails. */
    private static final class Row {
        private final int[] cells;

        Row(int size) {
            cells = new int[size > 0 ? size : 0];
        }

        int get(int i) {
            return i >= 0 && i < cells.length ? cells[i] : 0;
        }

        void set(int i, int value) {
            if (i >= 0 && i < cells.length) {
                cells[i] = value;
            }
        }

        void fill(int value) {
            for (int i = 0; i < cells.length; i++) {
                cells[i] = value;
            }
        }

        void copyFrom(Row other) {
            for (int i = 0; i < cells.length; i++) {
                cells[i] = other.get(i);
            }
        }

        int sum() {
            int sum = 0;
            for (int i = 0; i < cells.length; i++) {
                sum += cells[i];
            }
            return sum;
        }
    }

    /** THE PAGE: letters, which may be a MINE. */
    private static final class Page {
        private static final int BYTES = 8;
        private static final int LAST_LETTER = 126;

        final Row letters = new Row(MOST_LETTERS);
        int length;
        private final Reader reader = new Reader();

        /** How many letters the bytes of w tell; NONE, if they tell none as they should. */
        static int lettersIn(long w) {
            int many = 0;
            for (int i = 0; i < BYTES; i++) {
                int letter = byteOf(w, i);
                if (letter > LAST_LETTER || (letter != 0 && many < i)) {
                    return NONE;
                }
                if (letter != 0) {
                    many++;
                }
            }
            return many;
        }

        private static int byteOf(long w, int i) {
            return (int) (w >>> 8 * i & 255);
        }

        void append(long w, int many) {
            for (int i = 0; i < many; i++) {
                letters.set(length, byteOf(w, i));
                length++;
            }
        }

        int firstFault() {
            reader.start();
            for (int i = 0; i < length; i++) {
                if (!reader.takes(letters.get(i))) {
                    return i;
                }
            }
            return length;
        }

        boolean isMine() {
            return firstFault() == length && reader.mayEnd();
        }

        /** The number that a digit at this place tells. */
        int digit(int i) {
            return letters.get(i) - '0';
        }
    }

    /** Takes a MINE letter by letter. */
    private static final class Reader {
        private static final int KNOT = 0, OTHER_KNOT = 1, LENGTH = 2, DOOR = 3, BREAK = 4;
        private static final int SHAFT = 5, DRAUGHT = 6;

        private int due;
        private int first;
        private int galleries;
        private int shafts;

        void start() {
            due = KNOT;
            galleries = 0;
            shafts = 0;
        }

        /** Whether a MINE may have this letter here; when none may, reading is over. */
        boolean takes(int letter) {
            switch (due) {
                case KNOT:
                    first = letter;
                    due = OTHER_KNOT;
                    return isKnot(letter - '0');
                case OTHER_KNOT:
                    due = LENGTH;
                    return isKnot(letter - '0') && letter != first;
                case LENGTH:
                    galleries++;
                    due = DOOR;
                    return letter >= '1' && letter <= '9';
                case DOOR:
                    due = BREAK;
                    return letter == 'd' || takesBreak(letter);
                case BREAK:
                    return takesBreak(letter);
                case SHAFT:
                    return takesShaft(letter - '0');
                default:
                    due = SHAFT;
                    return letter >= '0' && letter <= '9';
            }
        }

        boolean mayEnd() {
            return due == SHAFT && Integer.bitCount(shafts) >= 2;
        }

        private boolean takesBreak(int letter) {
            due = letter == ';' ? SHAFT : KNOT;
            return letter == ';' || (letter == ',' && galleries < MOST_GALLERIES);
        }

        private boolean takesShaft(int knot) {
            if (!isKnot(knot) || bit(shafts, knot) == 1) {
                return false;
            }
            shafts |= 1 << knot;
            due = DRAUGHT;
            return true;
        }
    }

    /** THE MINE as it was read: what no door, hour or man changes. */
    private static final class Plan {
        private static final int HEIGHT_OF_DRAUGHT = 12;
        private static final int MOST_DRAUGHT = 9;

        int galleries;
        final Row one = new Row(MOST_GALLERIES);
        final Row two = new Row(MOST_GALLERIES);
        final Row length = new Row(MOST_GALLERIES);
        int doors;
        final Row draught = new Row(KNOTS);
        int shafts;

        boolean isRead() {
            return galleries > 0;
        }

        boolean hasGallery(int gallery) {
            return gallery >= 0 && gallery < galleries;
        }

        boolean isShaft(int knot) {
            return bit(shafts, knot) == 1;
        }

        int allGalleries() {
            return (1 << galleries) - 1;
        }

        /** Takes a page that is a MINE; of another one it would make nothing of use. */
        void readFrom(Page page) {
            galleries = 0;
            doors = 0;
            int at = 0;
            // The letter behind a GALLERY is a "," or the ";" at which they end: one step passes either.
            for (int i = 0; i < MOST_GALLERIES && (at == 0 || page.letters.get(at - 1) == ','); i++) {
                one.set(i, page.digit(at));
                two.set(i, page.digit(at + 1));
                length.set(i, page.digit(at + 2));
                galleries++;
                at += 3;
                if (page.letters.get(at) == 'd') {
                    doors |= 1 << i;
                    at++;
                }
                at++;
            }
            readShafts(page, at);
        }

        private void readShafts(Page page, int from) {
            draught.fill(NONE);
            shafts = 0;
            for (int at = from; at + 1 < page.length; at += 2) {
                draught.set(page.digit(at), page.digit(at + 1));
                shafts |= 1 << page.digit(at);
            }
        }

        int shaftHeight(int knot, boolean moon) {
            int own = draught.get(knot);
            return HEIGHT_OF_DRAUGHT * (moon ? MOST_DRAUGHT - own : own);
        }

        boolean isAt(int gallery, int knot) {
            return one.get(gallery) == knot || two.get(gallery) == knot;
        }

        int otherEnd(int gallery, int knot) {
            return one.get(gallery) == knot ? two.get(gallery) : one.get(gallery);
        }

        /** The GALLERIES at a KNOT, of some, as bits. */
        int galleriesAt(int knot, int some) {
            int found = 0;
            for (int i = 0; i < galleries; i++) {
                if (isAt(i, knot)) {
                    found |= some & 1 << i;
                }
            }
            return found;
        }
    }

    /** AIR: how high each KNOT is, and where it FLOWS. */
    private static final class Air {
        final Row height = new Row(KNOTS);
        final Row into = new Row(MOST_GALLERIES);
        int breathing;
        private final Row nearest = new Row(KNOTS);

        void blow(Plan plan, int open, boolean moon) {
            findNearest(plan, open);
            for (int knot = 0; knot < KNOTS; knot++) {
                height.set(knot, heightOf(nearest.get(knot), plan, moon));
            }
            findFlows(plan, open);
        }

        /** Which SHAFTS are nearest to each KNOT, as bits: one GALLERY farther with each round. */
        private void findNearest(Plan plan, int open) {
            for (int knot = 0; knot < KNOTS; knot++) {
                nearest.set(knot, plan.shafts & 1 << knot);
            }
            int reached = plan.shafts;
            for (int round = 1; round < KNOTS; round++) {
                int fresh = 0;
                for (int i = 0; i < plan.galleries; i++) {
                    if (bit(open, i) == 1) {
                        fresh |= spread(plan.one.get(i), plan.two.get(i), reached);
                        fresh |= spread(plan.two.get(i), plan.one.get(i), reached);
                    }
                }
                if (fresh == 0) {
                    return;
                }
                reached |= fresh;
            }
        }

        private int spread(int from, int to, int reached) {
            if (bit(reached, from) == 0 || bit(reached, to) == 1) {
                return 0;
            }
            nearest.set(to, nearest.get(to) | nearest.get(from));
            return 1 << to;
        }

        private static int heightOf(int shafts, Plan plan, boolean moon) {
            int many = Integer.bitCount(shafts);
            if (many == 0) {
                return NONE;
            }
            int together = 0;
            for (int knot = 0; knot < KNOTS; knot++) {
                if (bit(shafts, knot) == 1) {
                    together += plan.shaftHeight(knot, moon);
                }
            }
            return together / many;
        }

        private void findFlows(Plan plan, int open) {
            breathing = 0;
            for (int i = 0; i < plan.galleries; i++) {
                int one = plan.one.get(i);
                int two = plan.two.get(i);
                int down = bit(open, i) == 1 ? lower(one, two) : NONE;
                into.set(i, down);
                if (down != NONE) {
                    breathing |= 1 << one | 1 << two;
                }
            }
        }

        private int lower(int one, int two) {
            int left = height.get(one);
            int right = height.get(two);
            if (left == right || left == NONE || right == NONE) {
                return NONE;
            }
            return left < right ? one : two;
        }

        /** The least GALLERY through which air FLOWS into a KNOT, or NONE. */
        int firstInto(Plan plan, int knot) {
            for (int i = 0; i < plan.galleries; i++) {
                if (into.get(i) == knot) {
                    return i;
                }
            }
            return NONE;
        }

        void carrySmoke(Plan plan, Table smoke) {
            smoke.clear();
            for (int i = 0; i < plan.galleries; i++) {
                int to = into.get(i);
                if (to != NONE) {
                    smoke.link(plan.otherEnd(i, to), to, plan.length.get(i));
                }
            }
            smoke.joinWays();
        }
    }

    /** The least length of a way from each KNOT to each KNOT, or NONE. */
    private static final class Table {
        private final Row lengths = new Row(KNOTS * KNOTS);

        void clear() {
            lengths.fill(NONE);
            for (int knot = 0; knot < KNOTS; knot++) {
                lengths.set(knot * KNOTS + knot, 0);
            }
        }

        int between(int from, int to) {
            return lengths.get(from * KNOTS + to);
        }

        void link(int from, int to, int length) {
            int known = between(from, to);
            if (known == NONE || length < known) {
                lengths.set(from * KNOTS + to, length);
            }
        }

        void joinWays() {
            for (int via = 0; via < KNOTS; via++) {
                for (int from = 0; from < KNOTS; from++) {
                    int there = between(from, via);
                    for (int to = 0; to < KNOTS && there != NONE; to++) {
                        int on = between(via, to);
                        if (on != NONE) {
                            link(from, to, there + on);
                        }
                    }
                }
            }
        }
    }

    /** MEN and their KINDS, which stay with them. */
    private static final class Crew {
        static final int MAN = 0, NOSE = 1, CANARY = 2, BOY = 3, CHIEF = 4;

        final Row kinds = new Row(MOST_MEN);
        int size;

        static boolean isKind(int kind) {
            return kind >= MAN && kind <= CHIEF;
        }

        boolean has(int man) {
            return man >= 0 && man < size;
        }

        boolean isOf(int man, int kind) {
            int own = kinds.get(man);
            return kind == MAN || kind == own || (kind == NOSE && own == CHIEF);
        }

        int bears(int man) {
            switch (kinds.get(man)) {
                case CANARY:
                    return 1;
                case BOY:
                    return 2;
                case CHIEF:
                    return 6;
                default:
                    return 4;
            }
        }

        /** All NOSES, as bits. */
        int noses() {
            int found = 0;
            for (int man = 0; man < size; man++) {
                if (isOf(man, NOSE)) {
                    found |= 1 << man;
                }
            }
            return found;
        }
    }

    /** All that changes by the minute or by hand: what an IMAGE keeps. Where a MAN is, man() sets. */
    private static final class Moment {
        int open;
        boolean moon;
        final Row gas = new Row(KNOTS);
        final Row place = new Row(MOST_MEN);
        int out;
        int gone;

        void begin(int galleries) {
            open = galleries;
            moon = false;
            gas.fill(0);
            out = 0;
            gone = 0;
        }

        void copyFrom(Moment other) {
            open = other.open;
            moon = other.moon;
            gas.copyFrom(other.gas);
            place.copyFrom(other.place);
            out = other.out;
            gone = other.gone;
        }

        void passMinute(Crew crew, int breathing) {
            for (int knot = 0; knot < KNOTS; knot++) {
                boolean fresh = bit(breathing, knot) == 1;
                gas.set(knot, fresh ? 0 : Math.min(MOST_GAS, gas.get(knot) + 1));
            }
            for (int man = 0; man < crew.size; man++) {
                if (gas.get(place.get(man)) > crew.bears(man)) {
                    out |= 1 << man;
                }
            }
            gone++;
        }
    }

    /** DRAWS by a SEED. */
    private static final class Draws {
        private static final long FACTOR = 1103515245L;
        private static final long STEP = 12345L;
        private static final long SEEDS = 1L << 31;
        private static final int COARSE = 65536;

        int seed;

        int draw(int many) {
            seed = (int) ((FACTOR * seed + STEP) % SEEDS);
            return many > 0 ? seed / COARSE % many : 0;
        }
    }

    /** The order of least risk in which KNOTS are come to. */
    private static final class Rescue {
        // Five KNOTS have no more orders than these.
        private static final int MOST_ORDERS = 120;

        final Row best = new Row(MOST_RESCUED);
        int leastRisk;
        private final Row order = new Row(MOST_RESCUED);
        private int size;
        private final Table ways = new Table();

        /** Sets the least risk and its order; the risk is NONE, if some KNOT can not be come to. */
        void findBest(Plan plan, Moment now, int from, int set) {
            leastRisk = NONE;
            findWays(plan, now.open);
            if (!startOrder(from, set)) {
                return;
            }
            boolean more = true;
            for (int i = 0; i < MOST_ORDERS && more; i++) {
                int risk = riskOfOrder(from, now.gas);
                // Orders come by numbers: of like ones the first stays.
                if (leastRisk == NONE || risk < leastRisk) {
                    leastRisk = risk;
                    best.copyFrom(order);
                }
                more = stepOrder();
            }
        }

        private void findWays(Plan plan, int open) {
            ways.clear();
            for (int i = 0; i < plan.galleries; i++) {
                if (bit(open, i) == 1) {
                    ways.link(plan.one.get(i), plan.two.get(i), plan.length.get(i));
                    ways.link(plan.two.get(i), plan.one.get(i), plan.length.get(i));
                }
            }
            ways.joinWays();
        }

        /** Lays out the first order by numbers; false, if some KNOT can not be come to. */
        private boolean startOrder(int from, int set) {
            size = 0;
            for (int knot = 0; knot < KNOTS; knot++) {
                if (bit(set, knot) == 1) {
                    if (ways.between(from, knot) == NONE) {
                        return false;
                    }
                    order.set(size, knot);
                    size++;
                }
            }
            return true;
        }

        private int riskOfOrder(int from, Row gas) {
            int risk = 0;
            int length = 0;
            int at = from;
            for (int i = 0; i < size; i++) {
                int to = order.get(i);
                length += ways.between(at, to);
                risk += (gas.get(to) + 1) * length;
                at = to;
            }
            return risk;
        }

        /** Makes of the order the next one by numbers; false, if it is the last. */
        private boolean stepOrder() {
            int rise = size - 2;
            while (rise >= 0 && order.get(rise) > order.get(rise + 1)) {
                rise--;
            }
            if (rise < 0) {
                return false;
            }
            int higher = size - 1;
            while (higher > rise && order.get(higher) < order.get(rise)) {
                higher--;
            }
            swap(rise, higher);
            for (int i = rise + 1, j = size - 1; i < j; i++, j--) {
                swap(i, j);
            }
            return true;
        }

        private void swap(int i, int j) {
            int held = order.get(i);
            order.set(i, order.get(j));
            order.set(j, held);
        }
    }
}
