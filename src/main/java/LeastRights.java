/**
 * Least rights: what everyone may do held against what they did.
 *
 * <p>Every public method tests its numbers before anything else, so that the parts inside may take
 * them as told. All rows are made once, with the object: no call makes another one.
 */
public final class LeastRights {
    public static final int BAD = -1, FULL = -2, FINDING = -3, STATE = -4, SPENT = -6, NONE = -9;

    private static final int NOTHING = 1, BEYOND = 2, UNLIKE = 3, SIZE = 4;
    private static final int HOLDING = 0, USED = 1, SELDOM = 2, STANDBY = 3;
    private static final int MOST_PEOPLE = 10, RIGHTS = 12, MARK_SETS = 256, RIGHT_SETS = 4096;
    private static final int MOST_USES = 400, LAST_DAY = 999, MOST_TRIES = 20000;
    private static final int SHEETS = 4, SHEET_ROOM = 10;

    private final Days days;
    private final Folk folk;
    private final UseLog log;
    private final Candidates choice;
    private final RoleTree tree;
    private final Bans bans;
    private final Draft draft;
    private final Sheets sheets;
    private final Findings tally;
    private final int[] keptRow;
    private final int[] askAnswers;
    private int standbyRights;
    private int exceptionsTold;

    public LeastRights() {
        days = new Days();
        folk = new Folk();
        log = new UseLog();
        choice = new Candidates();
        tree = new RoleTree();
        bans = new Bans();
        draft = new Draft();
        sheets = new Sheets();
        tally = new Findings();
        keptRow = new int[MOST_PEOPLE];
        askAnswers = new int[3];
        standbyRights = 0;
        exceptionsTold = 0;
    }

    // ---- 1 people, uses

    public int person(int marks, int rights) {
        if (noMarkSet(marks) || noRightSet(rights)) return BAD;
        if (folk.size >= MOST_PEOPLE) return FULL;
        return folk.join(marks, rights);
    }

    public int change(int p, int what, int bits) {
        if (noPerson(p)) return BAD;
        if (what == 0) return noMarkSet(bits) ? BAD : folk.remark(p, bits);
        if (what == 1) return noRightSet(bits) ? BAD : folk.give(p, bits);
        return BAD;
    }

    public int told(int p, int what) {
        if (noPerson(p)) return BAD;
        switch (what) {
            case 0: return folk.marks[p];
            case 1: return folk.rights[p];
            case 2: return keptOf(p);
            case 3: return folk.struck[p];
            case 4: return log.ofPerson(p);
            default: return BAD;
        }
    }

    public int standby(int bits) {
        if (noRightSet(bits)) return BAD;
        int before = standbyRights;
        standbyRights = bits;
        return before;
    }

    public int rule(int span, int season, int grace) {
        if (span < 1 || span > LAST_DAY || season < 1 || season > LAST_DAY) return BAD;
        if (grace < 0 || grace > LAST_DAY) return BAD;
        days.span = span;
        days.season = season;
        days.grace = grace;
        return 1;
    }

    public int later(int n) {
        if (n < 0 || n > LAST_DAY - days.present) return BAD;
        days.present += n;
        return days.present;
    }

    public int use(int p, int right, int n) {
        if (noPerson(p) || noRight(right) || n < 0 || n > days.present) return BAD;
        if (log.size >= MOST_USES) return FULL;
        if (!folk.has(p, right)) return STATE;
        return log.enter(p, right, days.present - n);
    }

    public int kind(int p, int right) {
        if (noPerson(p) || noRight(right)) return BAD;
        if (!folk.has(p, right)) return STATE;
        return kindOf(p, right);
    }

    public int uses(int p, int right, int kind) {
        if (noPerson(p) || noRight(right) || kind < HOLDING || kind > STANDBY) return BAD;
        if (!folk.has(p, right)) return STATE;
        if (!isOfKind(kindOf(p, right), kind)) return tally.answer(UNLIKE);
        return log.ofHolding(p, right);
    }

    public int strike(int p) {
        if (noPerson(p)) return BAD;
        return folk.leave(p, keptOf(p), days.present);
    }

    public int ask(int p, int right) {
        if (noPerson(p) || noRight(right)) return BAD;
        int answer = folk.request(p, right, days);
        askAnswers[answer]++;
        return answer;
    }

    public int asks(int what) {
        if (what < 0 || what >= askAnswers.length) return BAD;
        return askAnswers[what];
    }

    // ---- 2 roles, rules, bans

    public int candidates() {
        lookAtKept();
        choice.gather(keptRow, folk.size);
        return choice.size;
    }

    public int roles(int n) {
        if (n < 1 || n > MOST_TRIES) return BAD;
        lookAtKept();
        choice.gather(keptRow, folk.size);
        return tree.search(keptRow, folk.size, choice, n) ? tree.size : SPENT;
    }

    public int tries() {
        return tree.tried;
    }

    public int role(int i) {
        if (i < 0 || i >= tree.size) return NONE;
        return tree.fewestRow[i];
    }

    public int rolesOf(int p) {
        if (noPerson(p)) return BAD;
        return tree.rolesWithin(keptOf(p));
    }

    public int marksOf(int right) {
        if (noRight(right)) return BAD;
        if (folk.size == 0) return STATE;
        int best = 0;
        int fewest = Integer.bitCount(folk.mistold(right, best));
        for (int set = 1; set < MARK_SETS; set++) {
            int wrong = Integer.bitCount(folk.mistold(right, set));
            boolean fewerMarks = Integer.bitCount(set) < Integer.bitCount(best);
            if (wrong < fewest || (wrong == fewest && fewerMarks)) {
                best = set;
                fewest = wrong;
            }
        }
        exceptionsTold = fewest;
        return best;
    }

    public int exceptions(int right, int marks) {
        if (noRight(right) || noMarkSet(marks)) return BAD;
        return folk.mistold(right, marks);
    }

    public int ban(int a, int b, boolean is) {
        if (noRight(a) || noRight(b) || a == b) return BAD;
        return bans.put(a, b, is);
    }

    public int breach() {
        int who = 0;
        for (int p = 0; p < folk.size; p++) {
            if (bans.clashing(folk.rights[p]) != 0) who |= 1 << p;
        }
        return who;
    }

    public int least(int p) {
        if (noPerson(p)) return BAD;
        int held = folk.rights[p];
        int clashing = bans.clashing(held);
        if (clashing == 0) return 0;
        int kept = keptOf(p);
        // All that clash together are always enough, and no other right can be of help.
        int best = clashing;
        for (int set = 1; set < clashing; set++) {
            if ((set & ~clashing) == 0 && isLighter(set, best, kept) && bans.clashing(held & ~set) == 0) {
                best = set;
            }
        }
        return best;
    }

    public int badRole() {
        for (int i = 0; i < tree.size; i++) {
            if (bans.clashing(tree.fewestRow[i]) != 0) return i;
        }
        return NONE;
    }

    // ---- 3 plans, sheets

    public int plan(boolean keep) {
        if (keep) lookAtKept();
        return draft.make(keep ? keptRow : folk.rights, folk.size);
    }

    public int takeOut(int p, int right) {
        if (noPerson(p) || noRight(right) || (draft.made && p >= draft.size)) return BAD;
        if (!draft.made) return STATE;
        return draft.drop(p, right);
    }

    public int stopped(int n) {
        if (noLastDays(n)) return BAD;
        if (!draft.made) return STATE;
        int many = 0;
        for (int u = 0; u < log.size; u++) {
            if (isStopped(u, n)) many++;
        }
        return many;
    }

    public int stop(int n, int i) {
        if (noLastDays(n) || i < 0) return BAD;
        if (!draft.made) return STATE;
        for (int u = i; u < log.size; u++) {
            if (isStopped(u, n)) return u;
        }
        return NONE;
    }

    public int used(int use, int what) {
        if (use < 0 || use >= log.size) return BAD;
        switch (what) {
            case 0: return log.who[use];
            case 1: return log.which[use];
            case 2: return log.when[use];
            default: return BAD;
        }
    }

    public int apply() {
        if (!draft.made || draft.size != folk.size) return STATE;
        int gone = 0;
        for (int p = 0; p < folk.size; p++) {
            gone += folk.leave(p, draft.rights[p], days.present);
        }
        return gone;
    }

    public int sheet(int s, int n) {
        if (noSheet(s) || n > SHEET_ROOM) return BAD;
        if (n < 0) return tally.answer(SIZE);
        return sheets.lay(s, n);
    }

    public int save(int s) {
        if (noSheet(s)) return BAD;
        if (sheets.isMissing(s)) return tally.answer(NOTHING);
        return sheets.write(s, folk.rights, folk.size);
    }

    public int load(int s, int i, int p) {
        if (noSheet(s) || noPerson(p)) return BAD;
        if (sheets.isMissing(s)) return tally.answer(NOTHING);
        if (i < 0 || i >= sheets.sizes[s]) return tally.answer(BEYOND);
        folk.give(p, sheets.at(s, i));
        return 1;
    }

    public int tear(int s) {
        if (noSheet(s)) return BAD;
        if (sheets.isMissing(s)) return tally.answer(NOTHING);
        sheets.sizes[s] = Sheets.MISSING;
        return 1;
    }

    public int copy(int s, int i, int to, int j, int n) {
        if (noSheet(s) || noSheet(to)) return BAD;
        if (n < 0) return tally.answer(SIZE);
        if (sheets.isMissing(s) || sheets.isMissing(to)) return tally.answer(NOTHING);
        if (!sheets.spans(s, i, n) || !sheets.spans(to, j, n)) return tally.answer(BEYOND);
        sheets.move(s, i, to, j, n);
        return 1;
    }

    // ---- 4 what is told

    public int asked() {
        return exceptionsTold;
    }

    public int count(int what) {
        switch (what) {
            case 0: return folk.size;
            case 1: return days.present;
            case 2: return log.size;
            case 3: return totalOf(folk.rights, folk.size);
            case 4:
                lookAtKept();
                return totalOf(keptRow, folk.size);
            case 5: return totalOf(bans.with, RIGHTS) / 2;
            default: return BAD;
        }
    }

    public int finding() {
        return tally.latest;
    }

    public int findings(int f) {
        if (f < NOTHING || f > SIZE) return BAD;
        return tally.times[f];
    }

    public long digest() {
        long h = digestOfPeople(17);
        h = 31 * h + standbyRights;
        h = 31 * h + days.present;
        for (int u = 0; u < log.size; u++) {
            h = 31 * h + log.who[u];
            h = 31 * h + log.which[u];
            h = 31 * h + log.when[u];
        }
        for (int r = 0; r < RIGHTS; r++) h = 31 * h + bans.with[r];
        return digestOfSheets(h);
    }

    // ---- what the calls share

    private long digestOfPeople(long start) {
        long h = start;
        lookAtKept();
        for (int p = 0; p < folk.size; p++) {
            h = 31 * h + folk.marks[p];
            h = 31 * h + folk.rights[p];
            h = 31 * h + keptRow[p];
            h = 31 * h + folk.struck[p];
            h = 31 * h + log.ofPerson(p);
        }
        return h;
    }

    private long digestOfSheets(long start) {
        long h = start;
        for (int s = 0; s < SHEETS; s++) {
            h = 31 * h + sheets.sizes[s];
            for (int i = 0; i < sheets.sizes[s]; i++) h = 31 * h + sheets.at(s, i);
        }
        return h;
    }

    private boolean noPerson(int p) {
        return p < 0 || p >= folk.size;
    }

    private static boolean noRight(int right) {
        return right < 0 || right >= RIGHTS;
    }

    private static boolean noMarkSet(int bits) {
        return bits < 0 || bits >= MARK_SETS;
    }

    private static boolean noRightSet(int bits) {
        return bits < 0 || bits >= RIGHT_SETS;
    }

    private static boolean noSheet(int s) {
        return s < 0 || s >= SHEETS;
    }

    private static boolean noLastDays(int n) {
        return n < 1 || n > LAST_DAY + 1;
    }

    private int keptOf(int p) {
        int alive = log.recent(p, days) | log.seasonal(p, days) | standbyRights;
        return folk.rights[p] & alive;
    }

    private void lookAtKept() {
        for (int p = 0; p < folk.size; p++) keptRow[p] = keptOf(p);
    }

    private int kindOf(int p, int right) {
        int bit = 1 << right;
        if ((log.recent(p, days) & bit) != 0) return USED;
        if ((log.seasonal(p, days) & bit) != 0) return SELDOM;
        return (standbyRights & bit) != 0 ? STANDBY : HOLDING;
    }

    private static boolean isOfKind(int kind, int wanted) {
        return wanted == HOLDING || kind == wanted || (wanted == USED && kind == SELDOM);
    }

    private boolean isStopped(int u, int n) {
        return days.isWithinLast(log.when[u], n) && !draft.allows(log.who[u], log.which[u]);
    }

    private static boolean isLighter(int set, int than, int kept) {
        int more = Integer.bitCount(set) - Integer.bitCount(than);
        if (more != 0) return more < 0;
        return Integer.bitCount(set & kept) < Integer.bitCount(than & kept);
    }

    private static int totalOf(int[] sets, int size) {
        int total = 0;
        for (int k = 0; k < size && k < sets.length; k++) total += Integer.bitCount(sets[k]);
        return total;
    }

    /** The present day, and the lengths of time by which other days are held against it. */
    private static final class Days {
        private int present = 0;
        private int span = 30;
        private int season = 100;
        private int grace = 60;

        boolean isWithinLast(int day, int n) {
            return present - day < n;
        }

        /** Whether a season, or some of them, lead from the day to one of the span that begins now. */
        boolean comesRound(int day) {
            if (season < 1) return false;
            int toPresent = present - day;
            int toLast = toPresent + span - 1;
            return toLast / season * season >= toPresent;
        }

        boolean isInGrace(int day) {
            return present - day <= grace;
        }
    }

    /** The people. A right that is struck is so until it is asked for or given by hand. */
    private static final class Folk {
        private int size = 0;
        private final int[] marks = new int[MOST_PEOPLE];
        private final int[] rights = new int[MOST_PEOPLE];
        private final int[] struck = new int[MOST_PEOPLE];
        private final int[] struckOn = new int[MOST_PEOPLE * RIGHTS];

        int join(int newMarks, int newRights) {
            marks[size] = newMarks;
            rights[size] = newRights;
            size++;
            return size - 1;
        }

        boolean has(int p, int right) {
            return (rights[p] & 1 << right) != 0;
        }

        int remark(int p, int bits) {
            int before = marks[p];
            marks[p] = bits;
            return before;
        }

        int give(int p, int bits) {
            int before = rights[p];
            rights[p] = bits;
            struck[p] &= ~bits;
            return before;
        }

        /**
         * The person is left with these rights, and what goes is struck: how many go. What a plan
         * brings back stays struck, as no sentence of the document ends that here.
         */
        int leave(int p, int bits, int day) {
            int going = rights[p] & ~bits;
            rights[p] = bits;
            struck[p] |= going;
            for (int r = 0; r < RIGHTS; r++) {
                if ((going & 1 << r) != 0) struckOn[p * RIGHTS + r] = day;
            }
            return Integer.bitCount(going);
        }

        int request(int p, int right, Days days) {
            int bit = 1 << right;
            if ((rights[p] & bit) != 0) return 2;
            if ((struck[p] & bit) == 0 || !days.isInGrace(struckOn[p * RIGHTS + right])) return 0;
            rights[p] |= bit;
            struck[p] &= ~bit;
            return 1;
        }

        /** Those (bits) of whom having all these marks tells wrongly whether they have the right. */
        int mistold(int right, int ruleMarks) {
            int who = 0;
            for (int p = 0; p < size; p++) {
                boolean isTold = (marks[p] & ruleMarks) == ruleMarks;
                if (isTold != has(p, right)) who |= 1 << p;
            }
            return who;
        }
    }

    /** The uses, in the order in which they were told. */
    private static final class UseLog {
        private int size = 0;
        private final int[] who = new int[MOST_USES];
        private final int[] which = new int[MOST_USES];
        private final int[] when = new int[MOST_USES];

        int enter(int p, int right, int day) {
            who[size] = p;
            which[size] = right;
            when[size] = day;
            size++;
            return size;
        }

        int ofPerson(int p) {
            int many = 0;
            for (int u = 0; u < size; u++) {
                if (who[u] == p) many++;
            }
            return many;
        }

        int ofHolding(int p, int right) {
            int many = 0;
            for (int u = 0; u < size; u++) {
                if (who[u] == p && which[u] == right) many++;
            }
            return many;
        }

        /** Rights that the person used within the span. */
        int recent(int p, Days days) {
            int bits = 0;
            for (int u = 0; u < size; u++) {
                if (who[u] == p && days.isWithinLast(when[u], days.span)) bits |= 1 << which[u];
            }
            return bits;
        }

        /** Rights that the person used before the span, on a day whose season is due. */
        int seasonal(int p, Days days) {
            int bits = 0;
            for (int u = 0; u < size; u++) {
                boolean isBefore = who[u] == p && !days.isWithinLast(when[u], days.span);
                if (isBefore && days.comesRound(when[u])) bits |= 1 << which[u];
            }
            return bits;
        }
    }

    /** All sets that some people have kept in common, the least bits first. */
    private static final class Candidates {
        private int size = 0;
        private final int[] sets = new int[(1 << MOST_PEOPLE) - 1];
        private final long[] noted = new long[RIGHT_SETS / 64];

        void gather(int[] kept, int people) {
            for (int w = 0; w < noted.length; w++) noted[w] = 0;
            size = 0;
            for (int p = 0; p < people; p++) {
                int before = size;
                for (int c = 0; c < before; c++) note(sets[c] & kept[p]);
                note(kept[p]);
            }
            putInOrder();
        }

        private void note(int set) {
            if (set == 0 || isNoted(set) || size >= sets.length) return;
            noted[set / 64] |= 1L << set % 64;
            sets[size] = set;
            size++;
        }

        private boolean isNoted(int set) {
            return (noted[set / 64] & 1L << set % 64) != 0;
        }

        private void putInOrder() {
            int placed = 0;
            for (int set = 1; set < RIGHT_SETS && placed < size; set++) {
                if (isNoted(set)) {
                    sets[placed] = set;
                    placed++;
                }
            }
        }
    }

    /**
     * The tree by which the fewest roles are found. It is walked with rows of places, one a level,
     * and not by calls that call themselves: a way down may be as long as there are kept holdings.
     */
    private static final class RoleTree {
        /** Each role on a way covers one kept holding at least that none before it did. */
        private static final int DEEPEST = MOST_PEOPLE * RIGHTS;
        private static final int NO_ROW = DEEPEST + 2;

        private int size = 0;
        private int tried = 0;
        private int fewest = NO_ROW;
        private final int[] fewestRow = new int[DEEPEST];
        private final int[] way = new int[DEEPEST];
        private final int[] bound = new int[DEEPEST + 1];
        private final int[] rightBit = new int[DEEPEST + 1];
        private final int[] next = new int[DEEPEST + 1];
        private final int[] covered = new int[(DEEPEST + 1) * MOST_PEOPLE];

        /** Whether so many tries are enough. If not, no roles are told. */
        boolean search(int[] kept, int people, Candidates choice, int most) {
            begin();
            int level = openPlace(0, kept, people) ? 0 : -1;
            if (level < 0) fewest = 0;
            // Each step is a try or a way back from one.
            for (int step = 0; level >= 0 && step < 2 * MOST_TRIES + 2; step++) {
                int set = nextOf(level, choice);
                if (set == 0) {
                    level--;
                    continue;
                }
                if (tried >= most) return false;
                tried++;
                way[level] = set;
                cover(level, set, kept, people);
                boolean isOpen = openPlace(level + 1, kept, people);
                if (!isOpen) keepIfFewer(level + 1);
                if (isOpen && level + 2 < fewest && level + 1 < DEEPEST) level++;
            }
            size = fewest < NO_ROW ? fewest : 0;
            return true;
        }

        /** Which of the roles (bits) have nothing but what is in the set. */
        int rolesWithin(int set) {
            int bits = 0;
            for (int i = 0; i < size; i++) {
                if ((fewestRow[i] & ~set) == 0) bits |= 1 << i;
            }
            return bits;
        }

        private void begin() {
            size = 0;
            tried = 0;
            fewest = NO_ROW;
            for (int p = 0; p < MOST_PEOPLE; p++) covered[p] = 0;
        }

        /** Looks for the first kept right that is not covered; false: there is none. */
        private boolean openPlace(int level, int[] kept, int people) {
            for (int p = 0; p < people; p++) {
                int open = kept[p] & ~covered[level * MOST_PEOPLE + p];
                if (open != 0) {
                    bound[level] = kept[p];
                    rightBit[level] = open & -open;
                    next[level] = 0;
                    return true;
                }
            }
            return false;
        }

        /** The next candidate that fits the place; 0: none is left. */
        private int nextOf(int level, Candidates choice) {
            for (int c = next[level]; c < choice.size; c++) {
                int set = choice.sets[c];
                if (set > bound[level]) break;
                if ((set & rightBit[level]) != 0 && (set & ~bound[level]) == 0) {
                    next[level] = c + 1;
                    return set;
                }
            }
            next[level] = choice.size;
            return 0;
        }

        private void cover(int level, int set, int[] kept, int people) {
            int from = level * MOST_PEOPLE;
            for (int p = 0; p < people; p++) {
                int more = (set & ~kept[p]) == 0 ? set : 0;
                covered[from + MOST_PEOPLE + p] = covered[from + p] | more;
            }
        }

        private void keepIfFewer(int length) {
            if (length >= fewest) return;
            fewest = length;
            for (int i = 0; i < length; i++) fewestRow[i] = way[i];
        }
    }

    /** Which rights (bits) nobody may have together with each right. */
    private static final class Bans {
        private final int[] with = new int[RIGHTS];

        int put(int a, int b, boolean is) {
            int before = with[a] >> b & 1;
            if (is) {
                with[a] |= 1 << b;
                with[b] |= 1 << a;
            } else {
                with[a] &= ~(1 << b);
                with[b] &= ~(1 << a);
            }
            return before;
        }

        /** Those of the rights that are banned with another of them. */
        int clashing(int rights) {
            int bits = 0;
            for (int r = 0; r < RIGHTS; r++) {
                if ((rights & 1 << r) != 0 && (rights & with[r]) != 0) bits |= 1 << r;
            }
            return bits;
        }
    }

    /** The plan, for the people that there were as it was made. */
    private static final class Draft {
        private boolean made = false;
        private int size = 0;
        private final int[] rights = new int[MOST_PEOPLE];

        int make(int[] sets, int people) {
            made = true;
            size = people;
            for (int p = 0; p < people; p++) rights[p] = sets[p];
            return totalOf(rights, size);
        }

        int drop(int p, int right) {
            int before = rights[p] >> right & 1;
            rights[p] &= ~(1 << right);
            return before;
        }

        /** Who came since has nothing in the plan. */
        boolean allows(int p, int right) {
            return p < size && (rights[p] & 1 << right) != 0;
        }
    }

    /** The sheets, one behind the other in a single row. */
    private static final class Sheets {
        private static final int MISSING = -1;

        private final int[] sizes = {MISSING, MISSING, MISSING, MISSING};
        private final int[] ints = new int[SHEETS * SHEET_ROOM];

        boolean isMissing(int s) {
            return sizes[s] == MISSING;
        }

        int at(int s, int i) {
            return ints[s * SHEET_ROOM + i];
        }

        int lay(int s, int n) {
            sizes[s] = n;
            for (int i = 0; i < n; i++) ints[s * SHEET_ROOM + i] = 0;
            return n;
        }

        int write(int s, int[] from, int many) {
            int n = Math.min(sizes[s], many);
            for (int i = 0; i < n; i++) ints[s * SHEET_ROOM + i] = from[i];
            return n;
        }

        boolean spans(int s, int i, int n) {
            return i >= 0 && n <= sizes[s] && i <= sizes[s] - n;
        }

        void move(int s, int i, int to, int j, int n) {
            System.arraycopy(ints, s * SHEET_ROOM + i, ints, to * SHEET_ROOM + j, n);
        }
    }

    /** The latest finding, and how often each was answered. */
    private static final class Findings {
        private int latest = 0;
        private final int[] times = new int[SIZE + 1];

        int answer(int f) {
            latest = f;
            times[f]++;
            return FINDING;
        }
    }
}
