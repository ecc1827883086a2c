import java.util.ArrayList;
import java.util.Comparator;
import java.util.List;
import java.util.TreeMap;
import java.util.TreeSet;

/** The document once more, word by word, with sets and lists and no thought of speed. */
final class Model {
    private static final int BAD = -1, FULL = -2, FINDING = -3, STATE = -4, SPENT = -6, NONE = -9;

    private static final class Person {
        int marks;
        TreeSet<Integer> rights = new TreeSet<>();
        TreeMap<Integer, Integer> struck = new TreeMap<>();
    }

    private static final class Use {
        final int person, right, day;

        Use(int person, int right, int day) {
            this.person = person;
            this.right = right;
            this.day = day;
        }
    }

    private final List<Person> people = new ArrayList<>();
    private final List<Use> useList = new ArrayList<>();
    private final TreeSet<Integer> banned = new TreeSet<>();
    private final List<List<Integer>> sheetList = new ArrayList<>();
    private final int[] askCount = new int[3];
    private final int[] findingCount = new int[5];
    private TreeSet<Integer> standbySet = new TreeSet<>();
    private List<TreeSet<Integer>> planSets = null;
    private List<Integer> roleList = new ArrayList<>();
    private int day = 0, span = 30, season = 100, grace = 60;
    private int tryCount = 0, exceptionCount = 0, lastFinding = 0;

    Model() {
        for (int s = 0; s < 4; s++) sheetList.add(null);
    }

    private static TreeSet<Integer> set(int bits) {
        TreeSet<Integer> set = new TreeSet<>();
        for (int b = 0; b < 31; b++) {
            if ((bits >> b & 1) == 1) set.add(b);
        }
        return set;
    }

    private static int bits(Iterable<Integer> set) {
        int bits = 0;
        for (int b : set) bits += 1 << b;
        return bits;
    }

    private static boolean in(int x, int least, int most) {
        return least <= x && x <= most;
    }

    private boolean isPerson(int p) {
        return in(p, 0, people.size() - 1);
    }

    private static boolean isRight(int r) {
        return in(r, 0, 11);
    }

    private int find(int f) {
        lastFinding = f;
        findingCount[f]++;
        return FINDING;
    }

    int person(int marks, int rights) {
        if (!in(marks, 0, 255) || !in(rights, 0, 4095)) return BAD;
        if (people.size() == 10) return FULL;
        Person person = new Person();
        person.marks = marks;
        person.rights = set(rights);
        people.add(person);
        return people.size() - 1;
    }

    int change(int p, int what, int bits) {
        if (!isPerson(p) || !in(what, 0, 1) || !in(bits, 0, what == 0 ? 255 : 4095)) return BAD;
        Person person = people.get(p);
        int before = what == 0 ? person.marks : bits(person.rights);
        if (what == 0) person.marks = bits;
        else setRights(person, set(bits));
        return before;
    }

    private static void setRights(Person person, TreeSet<Integer> rights) {
        person.rights = new TreeSet<>(rights);
        for (int r : rights) person.struck.remove(r);
    }

    int told(int p, int what) {
        if (!isPerson(p) || !in(what, 0, 4)) return BAD;
        Person person = people.get(p);
        if (what == 0) return person.marks;
        if (what == 1) return bits(person.rights);
        if (what == 2) return bits(kept(p));
        if (what == 3) return bits(person.struck.keySet());
        return (int) useList.stream().filter(u -> u.person == p).count();
    }

    int standby(int bits) {
        if (!in(bits, 0, 4095)) return BAD;
        int before = bits(standbySet);
        standbySet = set(bits);
        return before;
    }

    int rule(int n, int m, int g) {
        if (!in(n, 1, 999) || !in(m, 1, 999) || !in(g, 0, 999)) return BAD;
        span = n;
        season = m;
        grace = g;
        return 1;
    }

    int later(int n) {
        if (n < 0 || (long) day + n > 999) return BAD;
        day += n;
        return day;
    }

    int use(int p, int right, int n) {
        if (!isPerson(p) || !isRight(right) || !in(n, 0, day)) return BAD;
        if (useList.size() == 400) return FULL;
        if (!people.get(p).rights.contains(right)) return STATE;
        useList.add(new Use(p, right, day - n));
        return useList.size();
    }

    private boolean isUsed(int p, int right) {
        return useList.stream().anyMatch(u -> u.person == p && u.right == right && day - u.day < span);
    }

    private boolean comesAgain(Use u) {
        if (day - u.day < span) return false;
        for (int follows = 0; follows < span; follows++) {
            for (int d = u.day + season; d <= day + follows; d += season) {
                if (d == day + follows) return true;
            }
        }
        return false;
    }

    private boolean isSeldom(int p, int right) {
        return !isUsed(p, right)
            && useList.stream().anyMatch(u -> u.person == p && u.right == right && comesAgain(u));
    }

    private int kindOf(int p, int right) {
        return isUsed(p, right) ? 1 : isSeldom(p, right) ? 2 : standbySet.contains(right) ? 3 : 0;
    }

    private TreeSet<Integer> kept(int p) {
        TreeSet<Integer> kept = new TreeSet<>();
        for (int r : people.get(p).rights) {
            if (kindOf(p, r) != 0) kept.add(r);
        }
        return kept;
    }

    int kind(int p, int right) {
        if (!isPerson(p) || !isRight(right)) return BAD;
        return people.get(p).rights.contains(right) ? kindOf(p, right) : STATE;
    }

    int uses(int p, int right, int kind) {
        if (!isPerson(p) || !isRight(right) || !in(kind, 0, 3)) return BAD;
        if (!people.get(p).rights.contains(right)) return STATE;
        TreeSet<Integer> is = set(1 | 1 << kindOf(p, right));
        if (is.contains(2)) is.add(1);
        if (!is.contains(kind)) return find(3);
        return (int) useList.stream().filter(u -> u.person == p && u.right == right).count();
    }

    int strike(int p) {
        if (!isPerson(p)) return BAD;
        return reduce(p, kept(p));
    }

    private int reduce(int p, TreeSet<Integer> staying) {
        Person person = people.get(p);
        int gone = 0;
        for (int r : new ArrayList<>(person.rights)) {
            if (!staying.contains(r)) {
                person.rights.remove(r);
                person.struck.put(r, day);
                gone++;
            }
        }
        return gone;
    }

    int ask(int p, int right) {
        if (!isPerson(p) || !isRight(right)) return BAD;
        Person person = people.get(p);
        int answer = 0;
        if (person.rights.contains(right)) answer = 2;
        else if (person.struck.containsKey(right) && day - person.struck.get(right) <= grace) answer = 1;
        if (answer == 1) {
            person.rights.add(right);
            person.struck.remove(right);
        }
        askCount[answer]++;
        return answer;
    }

    int asks(int what) {
        return in(what, 0, 2) ? askCount[what] : BAD;
    }

    private List<Integer> allKept() {
        List<Integer> all = new ArrayList<>();
        for (int p = 0; p < people.size(); p++) all.add(bits(kept(p)));
        return all;
    }

    private static TreeSet<Integer> candidateSets(List<Integer> kept) {
        TreeSet<Integer> sets = new TreeSet<>();
        for (int some = 1; some < 1 << kept.size(); some++) {
            int common = 4095;
            for (int p : set(some)) common &= kept.get(p);
            if (common != 0) sets.add(common);
        }
        return sets;
    }

    int candidates() {
        return candidateSets(allKept()).size();
    }

    private static final class Spent extends Exception {
        private static final long serialVersionUID = 1L;
    }

    private final class Tree {
        final List<Integer> kept = allKept();
        final TreeSet<Integer> sets = candidateSets(kept);
        final int most;
        List<Integer> fewest = null;
        int tries = 0;

        Tree(int most) {
            this.most = most;
        }

        /** Person and right of the first place that is not covered; null: there is none. */
        int[] firstOpen(List<Integer> roles) {
            for (int p = 0; p < kept.size(); p++) {
                for (int r : set(kept.get(p))) {
                    boolean covered = false;
                    for (int role : roles) {
                        if ((role >> r & 1) == 1 && (role | kept.get(p)) == kept.get(p)) covered = true;
                    }
                    if (!covered) return new int[] {p, r};
                }
            }
            return null;
        }

        void go(List<Integer> roles, int[] open) throws Spent {
            for (int c : sets) {
                if ((c >> open[1] & 1) == 0 || (c | kept.get(open[0])) != kept.get(open[0])) continue;
                if (tries == most) throw new Spent();
                tries++;
                List<Integer> more = new ArrayList<>(roles);
                more.add(c);
                int[] next = firstOpen(more);
                if (next == null) {
                    if (fewest == null || more.size() < fewest.size()) fewest = more;
                } else if (fewest == null || more.size() + 1 < fewest.size()) {
                    go(more, next);
                }
            }
        }
    }

    int roles(int n) {
        if (!in(n, 1, 20000)) return BAD;
        Tree tree = new Tree(n);
        roleList = new ArrayList<>();
        try {
            int[] open = tree.firstOpen(new ArrayList<>());
            if (open == null) tree.fewest = new ArrayList<>();
            else tree.go(new ArrayList<>(), open);
        } catch (Spent spent) {
            tryCount = n;
            return SPENT;
        }
        tryCount = tree.tries;
        roleList = tree.fewest;
        return roleList.size();
    }

    int tries() {
        return tryCount;
    }

    int role(int i) {
        return in(i, 0, roleList.size() - 1) ? roleList.get(i) : NONE;
    }

    int rolesOf(int p) {
        if (!isPerson(p)) return BAD;
        TreeSet<Integer> which = new TreeSet<>();
        for (int i = 0; i < roleList.size(); i++) {
            if (kept(p).containsAll(set(roleList.get(i)))) which.add(i);
        }
        return bits(which);
    }

    private TreeSet<Integer> wrongFor(int right, int marks) {
        TreeSet<Integer> who = new TreeSet<>();
        for (int p = 0; p < people.size(); p++) {
            boolean told = set(people.get(p).marks).containsAll(set(marks));
            if (told != people.get(p).rights.contains(right)) who.add(p);
        }
        return who;
    }

    int marksOf(int right) {
        if (!isRight(right)) return BAD;
        if (people.isEmpty()) return STATE;
        List<Integer> rules = new ArrayList<>();
        for (int marks = 0; marks < 256; marks++) rules.add(marks);
        rules.sort(Comparator.<Integer>comparingInt(m -> wrongFor(right, m).size())
            .thenComparingInt(m -> set(m).size()).thenComparingInt(m -> m));
        exceptionCount = wrongFor(right, rules.get(0)).size();
        return rules.get(0);
    }

    int exceptions(int right, int marks) {
        if (!isRight(right) || !in(marks, 0, 255)) return BAD;
        return bits(wrongFor(right, marks));
    }

    private static int pair(int a, int b) {
        return Math.min(a, b) * 100 + Math.max(a, b);
    }

    int ban(int a, int b, boolean is) {
        if (!isRight(a) || !isRight(b) || a == b) return BAD;
        int before = banned.contains(pair(a, b)) ? 1 : 0;
        if (is) banned.add(pair(a, b));
        else banned.remove(pair(a, b));
        return before;
    }

    private boolean isBreach(int rights) {
        for (int pair : banned) {
            if (set(rights).contains(pair / 100) && set(rights).contains(pair % 100)) return true;
        }
        return false;
    }

    int breach() {
        TreeSet<Integer> who = new TreeSet<>();
        for (int p = 0; p < people.size(); p++) {
            if (isBreach(told(p, 1))) who.add(p);
        }
        return bits(who);
    }

    int least(int p) {
        if (!isPerson(p)) return BAD;
        int rights = told(p, 1);
        int kept = told(p, 2);
        List<Integer> enough = new ArrayList<>();
        for (int go = 0; go <= rights; go++) {
            if ((go | rights) == rights && !isBreach(rights - go)) enough.add(go);
        }
        enough.sort(Comparator.<Integer>comparingInt(go -> Integer.bitCount(go))
            .thenComparingInt(go -> Integer.bitCount(go & kept)).thenComparingInt(go -> go));
        return enough.get(0);
    }

    int badRole() {
        for (int i = 0; i < roleList.size(); i++) {
            if (isBreach(roleList.get(i))) return i;
        }
        return NONE;
    }

    int plan(boolean keep) {
        planSets = new ArrayList<>();
        int holdings = 0;
        for (int p = 0; p < people.size(); p++) {
            planSets.add(keep ? kept(p) : new TreeSet<>(people.get(p).rights));
            holdings += planSets.get(p).size();
        }
        return holdings;
    }

    int takeOut(int p, int right) {
        if (!isPerson(p) || !isRight(right)) return BAD;
        if (planSets == null) return STATE;
        if (p >= planSets.size()) return BAD;
        return planSets.get(p).remove(right) ? 1 : 0;
    }

    private List<Integer> stops(int n) {
        List<Integer> stops = new ArrayList<>();
        for (int u = 0; u < useList.size(); u++) {
            Use use = useList.get(u);
            boolean planned = use.person < planSets.size() && planSets.get(use.person).contains(use.right);
            if (use.day > day - n && !planned) stops.add(u);
        }
        return stops;
    }

    int stopped(int n) {
        if (!in(n, 1, 1000)) return BAD;
        return planSets == null ? STATE : stops(n).size();
    }

    int stop(int n, int i) {
        if (!in(n, 1, 1000) || i < 0) return BAD;
        if (planSets == null) return STATE;
        return stops(n).stream().filter(u -> u >= i).findFirst().orElse(NONE);
    }

    int used(int use, int what) {
        if (!in(use, 0, useList.size() - 1) || !in(what, 0, 2)) return BAD;
        Use u = useList.get(use);
        return what == 0 ? u.person : what == 1 ? u.right : u.day;
    }

    int apply() {
        if (planSets == null || planSets.size() != people.size()) return STATE;
        int gone = 0;
        for (int p = 0; p < people.size(); p++) {
            gone += reduce(p, planSets.get(p));
            people.get(p).rights = new TreeSet<>(planSets.get(p));
        }
        return gone;
    }

    int sheet(int s, int n) {
        if (!in(s, 0, 3) || n > 10) return BAD;
        if (n < 0) return find(4);
        List<Integer> ints = new ArrayList<>();
        for (int i = 0; i < n; i++) ints.add(0);
        sheetList.set(s, ints);
        return n;
    }

    int save(int s) {
        if (!in(s, 0, 3)) return BAD;
        if (sheetList.get(s) == null) return find(1);
        int many = Math.min(people.size(), sheetList.get(s).size());
        for (int p = 0; p < many; p++) sheetList.get(s).set(p, told(p, 1));
        return many;
    }

    int load(int s, int i, int p) {
        if (!in(s, 0, 3) || !isPerson(p)) return BAD;
        if (sheetList.get(s) == null) return find(1);
        if (!in(i, 0, sheetList.get(s).size() - 1)) return find(2);
        change(p, 1, sheetList.get(s).get(i));
        return 1;
    }

    int tear(int s) {
        if (!in(s, 0, 3)) return BAD;
        if (sheetList.get(s) == null) return find(1);
        sheetList.set(s, null);
        return 1;
    }

    int copy(int s, int i, int to, int j, int n) {
        if (!in(s, 0, 3) || !in(to, 0, 3)) return BAD;
        if (n < 0) return find(4);
        if (sheetList.get(s) == null || sheetList.get(to) == null) return find(1);
        if (i < 0 || (long) i + n > sheetList.get(s).size()) return find(2);
        if (j < 0 || (long) j + n > sheetList.get(to).size()) return find(2);
        List<Integer> taken = new ArrayList<>(sheetList.get(s).subList(i, i + n));
        for (int k = 0; k < n; k++) sheetList.get(to).set(j + k, taken.get(k));
        return 1;
    }

    int asked() {
        return exceptionCount;
    }

    int count(int what) {
        int holdings = 0;
        int keptHoldings = 0;
        for (int p = 0; p < people.size(); p++) {
            holdings += people.get(p).rights.size();
            keptHoldings += kept(p).size();
        }
        int[] counts = {people.size(), day, useList.size(), holdings, keptHoldings, banned.size()};
        return in(what, 0, 5) ? counts[what] : BAD;
    }

    int finding() {
        return lastFinding;
    }

    int findings(int f) {
        return in(f, 1, 4) ? findingCount[f] : BAD;
    }

    long digest() {
        List<Integer> row = new ArrayList<>();
        for (int p = 0; p < people.size(); p++) {
            for (int what = 0; what <= 4; what++) row.add(told(p, what));
        }
        row.add(bits(standbySet));
        row.add(day);
        for (int u = 0; u < useList.size(); u++) {
            for (int what = 0; what <= 2; what++) row.add(used(u, what));
        }
        for (int a = 0; a < 12; a++) {
            TreeSet<Integer> with = new TreeSet<>();
            for (int b = 0; b < 12; b++) {
                if (a != b && banned.contains(pair(a, b))) with.add(b);
            }
            row.add(bits(with));
        }
        for (List<Integer> ints : sheetList) {
            row.add(ints == null ? -1 : ints.size());
            if (ints != null) row.addAll(ints);
        }
        long h = 17;
        for (int v : row) h = 31 * h + v;
        return h;
    }
}
