import java.util.Arrays;

/**
 * A town whose peace is kept by a drum. Every refusal is an answer, never an exception;
 * README.md says how the class is used, ../shared/DOC.md what each call promises.
 */
public final class DrumPeace {
    public static final int NONE = -1000000, BAD = -1000001, STATE = -1000002, FULL = -1000003;

    private static final int FINDINGS = -1000010, NULL = 1, PLACE = 2, KIND = 3, SIZE = 4, STORE = 5;
    private static final int FAULTS = -1000100;
    private static final int LAST_HOUR = 9999;

    private final Rows rows = new Rows();
    private final Tape tape = new Tape();
    private final Town town = new Town();
    private final Town draft = new Town();
    private final Town firstImage = new Town();
    private final Town secondImage = new Town();
    private final Acts acts = new Acts();
    private final Foresight foresight = new Foresight();
    private final Asks asks = new Asks();
    private int finding;

    public DrumPeace() {
    }

    // ---- rows

    public int row(int row, int lane, int n) {
        if (!Rows.isRow(row) || lane < 0 || lane > Rows.LAST_LANE || n > Rows.MOST_ITEMS) {
            return BAD;
        }
        if (n < 0) {
            return found(SIZE);
        }
        rows.lay(row, lane, n);
        return fine(n);
    }

    public int set(int row, int i, int v) {
        if (!Rows.isRow(row)) {
            return BAD;
        }
        if (rows.isMissing(row)) {
            return found(NULL);
        }
        if (!rows.holds(row, i, 1)) {
            return found(PLACE);
        }
        return fine(rows.put(row, i, v));
    }

    public int copy(int a, int i, int b, int j, int n) {
        if (!Rows.isRow(a) || !Rows.isRow(b)) {
            return BAD;
        }
        if (rows.isMissing(a) || rows.isMissing(b)) {
            return found(NULL);
        }
        if (rows.lanes[a] != rows.lanes[b]) {
            return found(STORE);
        }
        if (!rows.holds(a, i, n) || !rows.holds(b, j, n)) {
            return found(PLACE);
        }
        System.arraycopy(rows.items[a], i, rows.items[b], j, n);
        return fine(n);
    }

    public int drop(int row) {
        if (!Rows.isRow(row)) {
            return BAD;
        }
        if (rows.isMissing(row)) {
            return found(NULL);
        }
        return fine(rows.takeAway(row));
    }

    // ---- towns, acts

    public int feed(int letter) {
        if (letter < 0 || letter > 255) {
            return BAD;
        }
        return tape.append(letter) ? tape.length : FULL;
    }

    public int town() {
        boolean read = tape.readInto(draft);
        tape.length = 0;
        if (!read) {
            return FAULTS - tape.faultPlace;
        }
        town.become(draft);
        acts.forget();
        return town.streets;
    }

    public int fault() {
        return tape.fault;
    }

    public int hours(int n) {
        if (noTown()) {
            return STATE;
        }
        if (n < 1 || n > 24) {
            return BAD;
        }
        if (town.hour + n > LAST_HOUR) {
            return FULL;
        }
        for (int h = 0; h < n; h++) {
            acts.keep(town);
            town.passHour();
        }
        return town.awake();
    }

    public int beat(int beat, int street) {
        if (!town.hasBeat(beat) || !town.hasStreet(street)) {
            return BAD;
        }
        int was = town.walk[beat];
        if (was == street) {
            return STATE;
        }
        acts.keep(town);
        town.walk[beat] = street;
        return was;
    }

    public int reach(int v) {
        if (noTown()) {
            return STATE;
        }
        if (v < 0 || v > Town.MOST_REACH) {
            return BAD;
        }
        int was = town.reach;
        acts.keep(town);
        town.reach = v;
        return was;
    }

    public int lull(int street, int n) {
        if (!town.hasStreet(street) || n < 1 || n > Town.MOST_DEEP) {
            return BAD;
        }
        acts.keep(town);
        town.deep[street] = Math.min(town.deep[street] + n, Town.MOST_DEEP);
        return town.deep[street];
    }

    public int bring(int street, int n) {
        if (!town.hasStreet(street) || n < 1 || n > Town.MOST_LOOT) {
            return BAD;
        }
        acts.keep(town);
        town.loot[street] = Math.min(town.loot[street] + n, Town.MOST_LOOT);
        return town.loot[street];
    }

    public int undo() {
        return acts.takeBack(town) ? acts.kept : STATE;
    }

    public int street(int street, int what) {
        if (!town.hasStreet(street)) {
            return BAD;
        }
        switch (what) {
            case 0:
                return town.deep[street];
            case 1:
                return town.loot[street];
            case 2:
                return town.hears(street) ? 1 : 0;
            case 3:
                return Town.deepAfter(town.sort[street], town.deep[street], town.hears(street), town.hour);
            case 4:
                return Town.stolen(town.deep[street], town.loot[street], town.thieves, town.hears(street));
            default:
                return BAD;
        }
    }

    public int round(int beat) {
        return town.hasBeat(beat) ? town.walk[beat] : BAD;
    }

    // ---- foretold

    public int ahead(int street, int d, int what) {
        if (!town.hasStreet(street) || isNoFarHour(d) || isNoHalf(what)) {
            return BAD;
        }
        Town then = foresight.townIn(town, d);
        return what == 0 ? then.deep[street] : then.loot[street];
    }

    public int later(int d, int what) {
        if (noTown()) {
            return STATE;
        }
        if (isNoFarHour(d) || isNoHalf(what)) {
            return BAD;
        }
        Town then = foresight.townIn(town, d);
        return what == 0 ? then.awake() : then.robbed;
    }

    public int wakes(int street) {
        return town.hasStreet(street) ? foresight.hoursUntilAwake(town, 1 << street) : BAD;
    }

    public int alarm() {
        return noTown() ? STATE : foresight.hoursUntilAwake(town, town.allStreets());
    }

    public int tune(int k, int n, int j) {
        if (noTown()) {
            return STATE;
        }
        if (k < 1 || k > Foresight.MOST_TUNED || n < 1 || n > 12 || j < -1) {
            return BAD;
        }
        if (j >= k) {
            return NONE;
        }
        foresight.findTune(town, k, n);
        return j < 0 ? foresight.leastRobbed : foresight.tunedBeat(town.streets, k, j);
    }

    public int shift(int n, int what) {
        if (noTown()) {
            return STATE;
        }
        if (n < 1 || n > 30 || isNoHalf(what)) {
            return BAD;
        }
        int change = foresight.findShift(town, n);
        return what == 0 || change == NONE ? change : foresight.leastRobbed;
    }

    public int cover(int what) {
        if (noTown()) {
            return STATE;
        }
        if (isNoHalf(what)) {
            return BAD;
        }
        int posts = foresight.fewestPosts(town);
        return what == 0 ? Integer.bitCount(posts) : posts;
    }

    public int spread(int street, int n) {
        if (!town.hasStreet(street) || n < 1 || n > 30) {
            return BAD;
        }
        return foresight.leastReach(town, street, n);
    }

    public int skins(int street, int n) {
        if (!town.hasStreet(street) || n < 0 || n > 999) {
            return BAD;
        }
        return town.taxOf(street, n);
    }

    public int fits(int street, int row, int i, int n, int what) {
        if (!town.hasStreet(street) || !Rows.isRow(row) || n < 1 || n > 12 || what < 0 || what > 3) {
            return BAD;
        }
        if (rows.isMissing(row)) {
            return found(NULL);
        }
        if (!rows.holds(row, i, n)) {
            return found(PLACE);
        }
        foresight.tell(rows.items[row], i, n);
        return fine(foresight.guesses(town, street, what));
    }

    public int drops(int street, int n, int c, int what) {
        if (!town.hasStreet(street) || n < 0 || n > 8 || c < 0 || c > 10 || isNoHalf(what)) {
            return BAD;
        }
        int above = foresight.chancesAwake(town, street, n, c);
        int below = Foresight.chancesInAll(n);
        int shared = Foresight.commonDivisor(above, below);
        return shared < 1 ? 0 : (what == 0 ? above : below) / shared;
    }

    public int drawn(int n, int seed, int what) {
        if (noTown()) {
            return STATE;
        }
        if (isNoFarHour(n) || seed < 1 || seed > 999999 || isNoHalf(what)) {
            return BAD;
        }
        Town then = foresight.townByDraws(town, n, seed);
        return what == 0 ? then.robbed - town.robbed : Integer.bitCount(then.awake());
    }

    public int image(int k) {
        if (isNoHalf(k)) {
            return BAD;
        }
        if (noTown()) {
            return STATE;
        }
        keptImage(k).become(town);
        return 1;
    }

    public int restore(int k) {
        if (isNoHalf(k)) {
            return BAD;
        }
        if (keptImage(k).streets == 0) {
            return STATE;
        }
        town.become(keptImage(k));
        acts.forget();
        return 1;
    }

    // ---- asked

    public int kind(int street) {
        return town.hasStreet(street) ? town.sort[street] : BAD;
    }

    public int as(int street, int kind) {
        if (!town.hasStreet(street) || kind < Asks.STREET || kind > Asks.PUMP) {
            return BAD;
        }
        return Asks.isOne(town.sort[street], kind) ? fine(street) : found(KIND);
    }

    public int ask(int street, int what) {
        if (!town.hasStreet(street) || isNoHalf(what)) {
            return BAD;
        }
        return asks.answerOf(town, street, what);
    }

    public int trace(int i) {
        return i < 0 || i >= asks.begun ? NONE : asks.bodies[i];
    }

    public int count(int what) {
        switch (what) {
            case 0:
                return rows.howMany();
            case 1:
                return town.streets;
            case 2:
                return town.beats;
            case 3:
                return town.hour;
            case 4:
                return town.reach;
            case 5:
                return town.thieves;
            case 6:
                return town.robbed;
            case 7:
                return town.awake();
            case 8:
                return acts.kept;
            case 9:
                return tape.length;
            default:
                return BAD;
        }
    }

    public int status() {
        return finding;
    }

    private int found(int number) {
        finding = number;
        return FINDINGS - number;
    }

    private int fine(int answer) {
        finding = 0;
        return answer;
    }

    private boolean noTown() {
        return town.streets == 0;
    }

    private Town keptImage(int k) {
        return k == 0 ? firstImage : secondImage;
    }

    private static boolean isNoHalf(int what) {
        return what < 0 || what > 1;
    }

    private static boolean isNoFarHour(int d) {
        return d < 0 || d > Foresight.FARTHEST;
    }

    /** Rows of numbers; each keeps room for the most items, so that laying one anew makes nothing. */
    private static final class Rows {
        static final int MOST_ROWS = 8, MOST_ITEMS = 40, LAST_LANE = 2, MISSING = -1;

        final int[][] items = new int[MOST_ROWS][MOST_ITEMS];
        final int[] lanes = new int[MOST_ROWS];
        final int[] lengths = new int[MOST_ROWS];

        Rows() {
            Arrays.fill(lanes, MISSING);
        }

        static boolean isRow(int row) {
            return row >= 0 && row < MOST_ROWS;
        }

        boolean isMissing(int row) {
            return lanes[row] == MISSING;
        }

        /** Compares by what is left behind i, as i + n may wrap around. */
        boolean holds(int row, int i, int n) {
            return i >= 0 && n >= 0 && i <= lengths[row] && n <= lengths[row] - i;
        }

        void lay(int row, int lane, int n) {
            Arrays.fill(items[row], 0);
            lanes[row] = lane;
            lengths[row] = n;
        }

        int put(int row, int i, int v) {
            int kept = lanes[row] == 0 ? (byte) v : lanes[row] == 1 ? (short) v : v;
            items[row][i] = kept;
            return kept;
        }

        int takeAway(int row) {
            int had = lengths[row];
            lanes[row] = MISSING;
            lengths[row] = 0;
            return had;
        }

        int howMany() {
            int there = 0;
            for (int row = 0; row < MOST_ROWS; row++) {
                there += isMissing(row) ? 0 : 1;
            }
            return there;
        }
    }

    /** The tape, and the reader of the town that is told on it. */
    private static final class Tape {
        static final int MOST_BYTES = 110;
        static final int MISPLACED = 1, NOT_AS_TOLD = 2, NO_ROOM = 3;
        static final int NO_NUMBER = -1;
        /** In the order of the kinds, of which the first is 1. */
        static final String SORTS = "angtp";

        final int[] bytes = new int[MOST_BYTES];
        int length;
        int fault;
        int faultPlace;
        private int at;

        boolean append(int letter) {
            if (length >= MOST_BYTES) {
                return false;
            }
            bytes[length] = letter;
            length++;
            return true;
        }

        boolean readInto(Town draft) {
            at = 0;
            draft.clear();
            return readLaw(draft) && readStreets(draft) && readBeats(draft);
        }

        private boolean readLaw(Town draft) {
            if (!readSign('d')) {
                return false;
            }
            draft.reach = readNumber(Town.MOST_REACH);
            if (draft.reach == NO_NUMBER || !readSign(',')) {
                return false;
            }
            draft.thieves = readNumber(Town.MOST_THIEVES);
            return draft.thieves != NO_NUMBER && readSign(';');
        }

        /** A street more than there is room for is refused by readStreet, so one turn more is made. */
        private boolean readStreets(Town draft) {
            for (int s = 0; s <= Town.MOST_STREETS; s++) {
                if (s > 0 && (at >= length || bytes[at] == 'r')) {
                    return true;
                }
                if (!readStreet(draft)) {
                    return false;
                }
            }
            return false;
        }

        private boolean readStreet(Town draft) {
            int sort = at < length ? SORTS.indexOf((char) bytes[at]) + 1 : 0;
            if (sort < 1) {
                return fails(MISPLACED);
            }
            int s = draft.streets;
            if (s >= Town.MOST_STREETS) {
                return fails(NO_ROOM);
            }
            at++;
            int deep = readNumber(Town.MOST_DEEP);
            if (deep == NO_NUMBER || !readSign(',')) {
                return false;
            }
            int loot = readNumber(Town.MOST_LOOT);
            if (loot == NO_NUMBER || !readSign(';')) {
                return false;
            }
            draft.sort[s] = sort;
            draft.deep[s] = deep;
            draft.loot[s] = loot;
            draft.streets++;
            return true;
        }

        /** As with streets, the beat that there is no room for is refused by readBeat. */
        private boolean readBeats(Town draft) {
            for (int b = 0; b <= Town.MOST_BEATS; b++) {
                if (b > 0 && at >= length) {
                    return true;
                }
                if (!readBeat(draft)) {
                    return false;
                }
            }
            return false;
        }

        private boolean readBeat(Town draft) {
            if (at >= length || bytes[at] != 'r') {
                return fails(MISPLACED);
            }
            int b = draft.beats;
            if (b >= Town.MOST_BEATS) {
                return fails(NO_ROOM);
            }
            at++;
            int street = readNumber(draft.streets - 1);
            if (street == NO_NUMBER || !readSign(';')) {
                return false;
            }
            draft.walk[b] = street;
            draft.beats++;
            return true;
        }

        private boolean readSign(int sign) {
            if (at >= length || bytes[at] != sign) {
                return fails(MISPLACED);
            }
            at++;
            return true;
        }

        private int readNumber(int most) {
            int figures = 0;
            int value = 0;
            while (figures < 3 && isFigure(at + figures)) {
                value = 10 * value + bytes[at + figures] - '0';
                figures++;
            }
            if (figures < 1 || figures > 2) {
                fails(MISPLACED);
                return NO_NUMBER;
            }
            if (value > most) {
                fails(NOT_AS_TOLD);
                return NO_NUMBER;
            }
            at += figures;
            return value;
        }

        private boolean isFigure(int place) {
            return place < length && bytes[place] >= '0' && bytes[place] <= '9';
        }

        private boolean fails(int number) {
            fault = number;
            faultPlace = at;
            return false;
        }
    }

    /** What an image keeps and an act changes; without streets there is no town. */
    private static final class Town {
        static final int MOST_STREETS = 8, MOST_BEATS = 8, MOST_REACH = 3, MOST_THIEVES = 9;
        static final int MOST_DEEP = 20, MOST_LOOT = 60, MOST_ROBBED = 99999;

        final int[] sort = new int[MOST_STREETS];
        final int[] deep = new int[MOST_STREETS];
        final int[] loot = new int[MOST_STREETS];
        final int[] walk = new int[MOST_BEATS];
        int streets;
        int beats;
        int reach;
        int thieves;
        int hour;
        int robbed;

        void clear() {
            streets = 0;
            beats = 0;
            reach = 0;
            thieves = 0;
            hour = 0;
            robbed = 0;
        }

        void become(Town other) {
            System.arraycopy(other.sort, 0, sort, 0, MOST_STREETS);
            System.arraycopy(other.deep, 0, deep, 0, MOST_STREETS);
            System.arraycopy(other.loot, 0, loot, 0, MOST_STREETS);
            System.arraycopy(other.walk, 0, walk, 0, MOST_BEATS);
            streets = other.streets;
            beats = other.beats;
            reach = other.reach;
            thieves = other.thieves;
            hour = other.hour;
            robbed = other.robbed;
        }

        boolean hasStreet(int s) {
            return s >= 0 && s < streets;
        }

        boolean hasBeat(int b) {
            return b >= 0 && b < beats;
        }

        int allStreets() {
            return (1 << streets) - 1;
        }

        int beatNow() {
            return beats < 1 ? 0 : hour % beats;
        }

        boolean hears(int s) {
            return hearsFrom(s, walk[beatNow()]);
        }

        boolean hearsFrom(int s, int drummer) {
            return Math.abs(s - drummer) <= reach;
        }

        int awake() {
            int bits = 0;
            for (int s = 0; s < streets; s++) {
                bits |= deep[s] == 0 ? 1 << s : 0;
            }
            return bits;
        }

        void passHour() {
            int drummer = walk[beatNow()];
            for (int s = 0; s < streets; s++) {
                passStreet(s, hearsFrom(s, drummer));
            }
            hour++;
        }

        void passHours(int n) {
            for (int h = 0; h < n; h++) {
                passHour();
            }
        }

        /** Streets do not touch one another, so one of them can be followed alone. */
        void passHourFor(int s) {
            passStreet(s, hears(s));
            hour++;
        }

        private void passStreet(int s, boolean hears) {
            int taken = stolen(deep[s], loot[s], thieves, hears);
            loot[s] -= taken;
            robbed = Math.min(robbed + taken, MOST_ROBBED);
            deep[s] = deepAfter(sort[s], deep[s], hears, hour);
        }

        static int stolen(int deep, int loot, int thieves, boolean hears) {
            return deep == 0 || hears ? 0 : Math.min(loot, thieves);
        }

        static int deepAfter(int sort, int deep, boolean hears, int hour) {
            int more;
            switch (sort) {
                case Asks.NURSERY:
                    more = !hears ? -1 : hour % 4 == 0 ? 4 : 2;
                    break;
                case Asks.GARRISON:
                    more = hears ? 2 : -3;
                    break;
                case Asks.TANNERY:
                    more = -1;
                    break;
                case Asks.PUMP:
                    more = hears ? -1 : -MOST_DEEP;
                    break;
                default:
                    more = hears ? 2 : -1;
            }
            return Math.max(0, Math.min(deep + more, MOST_DEEP));
        }

        int taxOf(int street, int n) {
            int all = lootOfAll();
            if (all < 1 || loot[street] == 0) {
                return 0;
            }
            int over = n;
            int richBefore = 0;
            for (int s = 0; s < streets; s++) {
                over -= n * loot[s] / all;
                richBefore += s < street && loot[s] > 0 ? 1 : 0;
            }
            return n * loot[street] / all + (richBefore < over ? 1 : 0);
        }

        private int lootOfAll() {
            int all = 0;
            for (int s = 0; s < streets; s++) {
                all += loot[s];
            }
            return all;
        }
    }

    /** The towns as they were ahead of the latest acts, in a ring that overwrites the oldest. */
    private static final class Acts {
        static final int MOST_ACTS = 24;

        private final Town[] before = new Town[MOST_ACTS];
        private int next;
        int kept;

        Acts() {
            for (int a = 0; a < MOST_ACTS; a++) {
                before[a] = new Town();
            }
        }

        void keep(Town town) {
            before[next].become(town);
            next = (next + 1) % MOST_ACTS;
            kept = Math.min(kept + 1, MOST_ACTS);
        }

        boolean takeBack(Town town) {
            if (kept == 0) {
                return false;
            }
            next = (next + MOST_ACTS - 1) % MOST_ACTS;
            kept--;
            town.become(before[next]);
            return true;
        }

        void forget() {
            kept = 0;
        }
    }

    /** What would be: everything is tried on a dream of the town, so that the town itself stays. */
    private static final class Foresight {
        static final int FARTHEST = 60, MOST_TUNED = 4;
        private static final int PATTERNS = 1 << MOST_TUNED;
        /** More than the streets that can be awake, so that these never outweigh what is robbed. */
        private static final int ROBBED_WEIGHS = 16;
        private static final int SORTS = 0, DEEPS = 1, REACHES = 2;

        private final Town dream = new Town();
        private final int[] burdens = new int[Town.MOST_STREETS * PATTERNS];
        private final int[] hearers = new int[Town.MOST_STREETS];
        private int[] chances = new int[Town.MOST_DEEP + 1];
        private int[] nextChances = new int[Town.MOST_DEEP + 1];
        private final int[] told = new int[12];
        private int tellings;
        private int bestTune;
        int leastRobbed;

        Town townIn(Town town, int d) {
            dream.become(town);
            dream.passHours(d);
            return dream;
        }

        int hoursUntilAwake(Town town, int these) {
            dream.become(town);
            for (int h = 0; h <= FARTHEST; h++) {
                if ((dream.awake() & these) == these) {
                    return h;
                }
                dream.passHour();
            }
            return NONE;
        }

        /**
         * A street's fate hangs only on which beats it hears, so that of every pattern of beats is
         * worked out once, and the many rounds are only sums of these.
         */
        void findTune(Town town, int k, int n) {
            weighPatterns(town, k, n);
            gatherHearers(town);
            int rounds = 1;
            for (int b = 0; b < k; b++) {
                rounds *= town.streets;
            }
            bestTune = 0;
            int least = burdenOf(0, town.streets, k);
            for (int r = 1; r < rounds; r++) {
                int burden = burdenOf(r, town.streets, k);
                if (burden < least) {
                    least = burden;
                    bestTune = r;
                }
            }
            leastRobbed = least / ROBBED_WEIGHS;
        }

        /** Rounds are numbers whose figures are the streets, that of the first beat the highest. */
        int tunedBeat(int streets, int k, int j) {
            int rest = bestTune;
            for (int b = k - 1; b > j; b--) {
                rest /= Math.max(streets, 1);
            }
            return rest % Math.max(streets, 1);
        }

        private void weighPatterns(Town town, int k, int n) {
            for (int s = 0; s < town.streets; s++) {
                for (int pattern = 0; pattern < 1 << k; pattern++) {
                    burdens[s * PATTERNS + pattern] = burdenOn(town, s, pattern, k, n);
                }
            }
        }

        private static int burdenOn(Town town, int s, int pattern, int k, int n) {
            int beats = Math.max(k, 1);
            int deep = town.deep[s];
            int loot = town.loot[s];
            for (int h = town.hour; h < town.hour + n; h++) {
                boolean hears = (pattern >> h % beats & 1) == 1;
                loot -= Town.stolen(deep, loot, town.thieves, hears);
                deep = Town.deepAfter(town.sort[s], deep, hears, h);
            }
            return ROBBED_WEIGHS * (town.loot[s] - loot) + (deep == 0 ? 1 : 0);
        }

        /** Who hears the drum in a street, as one number with a figure of four bits for each. */
        private void gatherHearers(Town town) {
            for (int from = 0; from < town.streets; from++) {
                hearers[from] = 0;
                for (int s = 0; s < town.streets; s++) {
                    hearers[from] |= town.hearsFrom(s, from) ? 1 << MOST_TUNED * s : 0;
                }
            }
        }

        private int burdenOf(int round, int streets, int k) {
            int base = Math.max(streets, 1);
            int rest = round;
            int heard = 0;
            for (int b = k - 1; b >= 0; b--) {
                heard |= hearers[rest % base] << b;
                rest /= base;
            }
            int burden = 0;
            for (int s = 0; s < streets; s++) {
                burden += burdens[s * PATTERNS + (heard >>> MOST_TUNED * s & PATTERNS - 1)];
            }
            return burden;
        }

        int findShift(Town town, int n) {
            leastRobbed = townIn(town, n).robbed - town.robbed;
            int change = NONE;
            for (int b = 0; b < town.beats; b++) {
                for (int s = 0; s < town.streets; s++) {
                    int robbed = robbedIfMoved(town, b, s, n);
                    if (robbed < leastRobbed) {
                        leastRobbed = robbed;
                        change = 10 * b + s;
                    }
                }
            }
            return change;
        }

        private int robbedIfMoved(Town town, int b, int s, int n) {
            dream.become(town);
            dream.walk[b] = s;
            dream.passHours(n);
            return dream.robbed - town.robbed;
        }

        int fewestPosts(Town town) {
            int fewest = town.allStreets();
            for (int posts = 1; posts < town.allStreets(); posts++) {
                if (Integer.bitCount(posts) < Integer.bitCount(fewest) && areHeardInAll(town, posts)) {
                    fewest = posts;
                }
            }
            return fewest;
        }

        private static boolean areHeardInAll(Town town, int posts) {
            int heard = 0;
            for (int s = 0; s < town.streets; s++) {
                for (int from = 0; from < town.streets; from++) {
                    heard |= (posts >> from & 1) == 1 && town.hearsFrom(s, from) ? 1 << s : 0;
                }
            }
            return heard == town.allStreets();
        }

        int leastReach(Town town, int street, int n) {
            for (int reach = 0; reach <= Town.MOST_REACH; reach++) {
                dream.become(town);
                dream.reach = reach;
                for (int h = 0; h < n; h++) {
                    dream.passHourFor(street);
                }
                if (dream.deep[street] > 0) {
                    return reach;
                }
            }
            return NONE;
        }

        /** Takes down what a row tells, n items from i on, that are known to be there. */
        void tell(int[] items, int i, int n) {
            tellings = Math.min(n, told.length);
            System.arraycopy(items, i, told, 0, tellings);
        }

        /** All (bits) that might be in place of what is, and the street would sleep as was told. */
        int guesses(Town town, int street, int what) {
            int bits = 0;
            for (int guess = firstGuess(what); guess <= lastGuess(town, what); guess++) {
                dream.become(town);
                suppose(street, what, guess);
                bits |= sleepsAsTold(street) ? 1 << guess : 0;
            }
            return bits;
        }

        private static int firstGuess(int what) {
            return what == SORTS ? Asks.ALLEY : 0;
        }

        private static int lastGuess(Town town, int what) {
            switch (what) {
                case SORTS:
                    return Asks.PUMP;
                case DEEPS:
                    return Town.MOST_DEEP;
                case REACHES:
                    return Town.MOST_REACH;
                default:
                    return town.streets - 1;
            }
        }

        private void suppose(int street, int what, int guess) {
            switch (what) {
                case SORTS:
                    dream.sort[street] = guess;
                    break;
                case DEEPS:
                    dream.deep[street] = guess;
                    break;
                case REACHES:
                    dream.reach = guess;
                    break;
                default:
                    dream.walk[dream.beatNow()] = guess;
            }
        }

        private boolean sleepsAsTold(int street) {
            for (int h = 0; h < tellings; h++) {
                dream.passHourFor(street);
                if (dream.deep[street] != told[h]) {
                    return false;
                }
            }
            return true;
        }

        /** Of the chances in all, those that leave the street awake. */
        int chancesAwake(Town town, int street, int n, int c) {
            dream.become(town);
            Arrays.fill(chances, 0);
            chances[town.deep[street]] = 1;
            for (int h = 0; h < n; h++) {
                takeChances(dream.sort[street], dream.hears(street), dream.hour, c);
                dream.hour++;
            }
            return chances[0];
        }

        private void takeChances(int sort, boolean hears, int hour, int c) {
            Arrays.fill(nextChances, 0);
            for (int deep = 0; deep <= Town.MOST_DEEP; deep++) {
                nextChances[Town.deepAfter(sort, deep, hears, hour)] += chances[deep] * (10 - c);
                nextChances[Town.deepAfter(sort, deep, false, hour)] += chances[deep] * c;
            }
            int[] spent = chances;
            chances = nextChances;
            nextChances = spent;
        }

        static int chancesInAll(int n) {
            int all = 1;
            for (int h = 0; h < n; h++) {
                all *= 10;
            }
            return all;
        }

        /** Far fewer turns are needed for numbers up to 10 to the 8th. */
        static int commonDivisor(int a, int b) {
            int high = a;
            int low = b;
            for (int turn = 0; turn < 100 && low != 0; turn++) {
                int rest = high % low;
                high = low;
                low = rest;
            }
            return high;
        }

        Town townByDraws(Town town, int n, int seed) {
            dream.become(town);
            long x = seed;
            for (int h = 0; h < n; h++) {
                x = x * 16807 % 2147483647L;
                applyDraw((int) x);
                dream.passHour();
            }
            return dream;
        }

        private void applyDraw(int x) {
            int street = x % Math.max(dream.streets, 1);
            if (x % 3 == 0) {
                dream.walk[x % Math.max(dream.beats, 1)] = street;
            } else if (x % 5 == 0) {
                dream.loot[street] = Town.MOST_LOOT;
            }
        }
    }

    /** The asks of streets: which body begins for a kind, and what it gives. */
    private static final class Asks {
        static final int STREET = 0, ALLEY = 1, NURSERY = 2, GARRISON = 3, TANNERY = 4, PUMP = 5;
        static final int MOST_BODIES = 16;
        /** A body leans on three more at the most, and one ask on another: 8 is never reached. */
        private static final int DEEPEST = 8;

        /** For each kind the kinds (bits) that it is, too. */
        private static final int[] IS_ONE = {0b000001, 0b000011, 0b000111, 0b001011, 0b010001, 0b110001};
        /** For each kind the body that begins: its own, else that of the nearest kind that it is. */
        private static final int[] SIZE_BODIES = {10, 11, 12, 11, 13, 14};
        private static final int[] MARK_BODIES = {20, 21, 24, 22, 23, 23};

        final int[] bodies = new int[MOST_BODIES];
        int begun;

        static boolean isOne(int sort, int kind) {
            return (IS_ONE[sort] >> kind & 1) == 1;
        }

        int answerOf(Town town, int street, int what) {
            begun = 0;
            int sort = town.sort[street];
            return give(town, street, what == 0 ? SIZE_BODIES[sort] : MARK_BODIES[sort], 0);
        }

        private int give(Town town, int street, int body, int depth) {
            if (depth > DEEPEST) {
                return 0;
            }
            leaveTrace(body);
            int sort = town.sort[street];
            switch (body) {
                case 10:
                    return town.loot[street];
                case 11:
                    return give(town, street, 10, depth + 1) + give(town, street, MARK_BODIES[sort], depth + 1);
                case 12:
                    return -give(town, street, 11, depth + 1);
                case 13:
                    return give(town, street, 10, depth + 1) - 100;
                case 14:
                    return 2 * give(town, street, 13, depth + 1);
                case 20:
                    return street;
                case 21:
                    return give(town, street, 20, depth + 1) + town.deep[street];
                case 22:
                    return give(town, street, 21, depth + 1) - 1000;
                case 23:
                    return give(town, street, 20, depth + 1) - give(town, street, SIZE_BODIES[sort], depth + 1);
                case 24:
                    return 2 * give(town, street, 21, depth + 1);
                default:
                    return 0;
            }
        }

        private void leaveTrace(int body) {
            if (begun < MOST_BODIES) {
                bodies[begun] = body;
                begun++;
            }
        }
    }
}
