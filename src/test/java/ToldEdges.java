import java.math.BigInteger;
import java.util.ArrayList;
import java.util.List;

/** Edges of promises 36 to 40: what is told of the whole. */
final class ToldEdges extends Edges {
    ToldEdges(Due due) {
        super(due);
    }

    @Override
    void test() {
        askedBefore();
        askedLatest();
        countWhat();
        countNothingAndAll();
        countKept();
        findingBefore();
        findingLatest();
        findingsNumbers();
        findingsEach();
        digestOfNothing();
        digestOfSome();
        digestOfAll();
        digestOfSheets();
    }

    private void askedBefore() {
        says(36, "What the latest marksOf() that was not refused told; 0 before.");
        LeastRights x = new LeastRights();
        is("before", x.asked(), 0);
        x.marksOf(0);
        is("a refused one, STATE", x.asked(), 0);
        x.person(ALL_MARKS, 0);
        x.marksOf(12);
        is("a refused one, BAD", x.asked(), 0);
        x.exceptions(0, 0);
        x.ask(0, 0);
        is("other calls", x.asked(), 0);
    }

    private void askedLatest() {
        says(36, "What the latest marksOf() that was not refused told; 0 before.");
        LeastRights x = ten(ALL_MARKS, 0);
        x.marksOf(0);
        is("ten", x.asked(), 10);
        x.marksOf(-1);
        x.marksOf(12);
        is("ten, and refused ones since", x.asked(), 10);
        x.change(0, 1, 1);
        is("of the latest, not of now", x.asked(), 10);
        x.marksOf(0);
        is("nine", x.asked(), 9);
        x.marksOf(1);
        is("ten again", x.asked(), 10);
        for (int p = 0; p < 10; p++) x.change(p, 1, 1);
        x.marksOf(0);
        is("none", x.asked(), 0);
    }

    private void countWhat() {
        says(37, "0 PEOPLE, 1 the PRESENT DAY, 2 USES, 3 HOLDINGS, 4 HOLDINGS that are KEPT, 5 BANNED pairs. BAD.");
        LeastRights x = new LeastRights();
        for (int what : new int[] {LOW, -2, -1, 6, 7, HIGH}) is("count(" + what + ")", x.count(what), BAD);
        for (int what = 0; what <= 5; what++) is("count(" + what + ")", x.count(what), 0);
    }

    private void countNothingAndAll() {
        says(37, "0 PEOPLE, 1 the PRESENT DAY, 2 USES, 3 HOLDINGS, 4 HOLDINGS that are KEPT, 5 BANNED pairs. BAD.");
        LeastRights x = ten(ALL_MARKS, ALL_RIGHTS);
        x.later(999);
        is("all people", x.count(0), 10);
        is("the last day", x.count(1), 999);
        is("all holdings", x.count(3), 120);
        is("none of them kept", x.count(4), 0);
        x.standby(ALL_RIGHTS);
        is("all of them kept", x.count(4), 120);
        for (int a = 0; a < 12; a++) {
            for (int b = a + 1; b < 12; b++) x.ban(a, b, true);
        }
        is("all pairs", x.count(5), 66);
        is("all uses", fullLog().count(2), 400);
        LeastRights none = ten(0, 0);
        none.standby(ALL_RIGHTS);
        is("no holdings of ten", none.count(3), 0);
        is("none kept of none", none.count(4), 0);
    }

    private void countKept() {
        says(37, "4 HOLDINGS that are KEPT");
        LeastRights x = people(7, 8);
        x.use(0, 0, 0);
        x.use(0, 0, 0);
        is("one, used twice", x.count(4), 1);
        x.standby(12);
        is("and two standby ones", x.count(4), 3);
        x.later(30);
        is("used no more", x.count(4), 2);
        x.later(70);
        is("seldom", x.count(4), 3);
        x.strike(0);
        is("holdings less what is struck", x.count(3), 3);
        x.change(0, 1, 0);
        is("holdings of the other one", x.count(3), 1);
        is("kept ones of the other one", x.count(4), 1);
    }

    private void findingBefore() {
        says(38, "The latest FINDING (0 before any).");
        LeastRights x = people(1);
        x.tear(4);
        x.sheet(0, 11);
        x.uses(0, 1, 1);
        x.uses(0, 0, 4);
        x.apply();
        x.standby(3);
        x.person(0, 2);
        is("SPENT", x.roles(1), SPENT);
        for (int p = 2; p < 10; p++) x.person(0, 1);
        is("FULL", x.person(0, 1), FULL);
        is("BAD, STATE, SPENT, FULL are none", x.finding(), 0);
        x.sheet(0, 1);
        is("nor are calls that are not refused", x.finding(), 0);
    }

    private void findingLatest() {
        says(38, "1 NOTHING (a SHEET that is missing), 2 BEYOND (a place that there is not), "
            + "3 UNLIKE (a HOLDING of another KIND), 4 SIZE (fewer than none).");
        LeastRights x = people(1);
        finds("save()", x, x.save(0), NOTHING);
        finds("sheet()", x, x.sheet(0, -1), SIZE);
        finds("load()", x, x.load(0, 0, 0), NOTHING);
        finds("uses()", x, x.uses(0, 0, 1), UNLIKE);
        finds("tear()", x, x.tear(0), NOTHING);
        x.sheet(0, 0);
        finds("load() of no ints", x, x.load(0, 0, 0), BEYOND);
        finds("copy()", x, x.copy(0, 0, 1, 0, 0), NOTHING);
        finds("copy() of less than none", x, x.copy(0, 0, 0, 0, -1), SIZE);
        finds("copy() of one", x, x.copy(0, 0, 0, 0, 1), BEYOND);
        x.tear(0);
        x.kind(0, 0);
        x.roles(0);
        is("stays", x.finding(), BEYOND);
    }

    private void findingsNumbers() {
        says(39, "How often a FINDING (1 .. 4) was answered. BAD.");
        LeastRights x = new LeastRights();
        for (int f : new int[] {LOW, -3, -1, 0, 5, 6, HIGH}) is("findings(" + f + ")", x.findings(f), BAD);
        for (int f = 1; f <= 4; f++) is("findings(" + f + ")", x.findings(f), 0);
    }

    private void findingsEach() {
        says(39, "How often a FINDING (1 .. 4) was answered. BAD.");
        LeastRights x = people(1);
        x.sheet(0, 1);
        int[] order = {NOTHING, SIZE, BEYOND, UNLIKE, UNLIKE, NOTHING, BEYOND, SIZE, SIZE, SIZE, NOTHING};
        int[] want = new int[5];
        for (int f : order) {
            if (f == NOTHING) x.tear(1);
            if (f == BEYOND) x.load(0, 1, 0);
            if (f == UNLIKE) x.uses(0, 0, 1);
            if (f == SIZE) x.sheet(0, -1);
            want[f]++;
            for (int g = 1; g <= 4; g++) is("findings(" + g + ") after " + f, x.findings(g), want[g]);
        }
    }

    /** The digest of a row, with numbers that have no end, cut to 64 bits at the last. */
    private static long digest(List<Integer> row) {
        BigInteger h = BigInteger.valueOf(17);
        for (int v : row) h = h.multiply(BigInteger.valueOf(31)).add(BigInteger.valueOf(v));
        return h.longValue();
    }

    private static void add(List<Integer> row, int... values) {
        for (int v : values) row.add(v);
    }

    private void digestOfNothing() {
        says(40, "h = 17; then h = 31 h + v for each v");
        List<Integer> row = new ArrayList<>();
        add(row, 0, 0);
        add(row, 0, 0, 0, 0, 0, 0, 0, 0, 0, 0, 0, 0);
        add(row, -1, -1, -1, -1);
        is("a new object", new LeastRights().digest(), digest(row));
    }

    private void digestOfSome() {
        says(40, "of each PERSON told() 0 to 4; STANDBY; the PRESENT DAY; of each USE used() 0 to 2");
        LeastRights x = new LeastRights();
        x.person(5, 15);
        x.person(ALL_MARKS, ALL_RIGHTS);
        x.later(3);
        x.use(1, 11, 2);
        x.use(0, 1, 3);
        x.standby(5);
        x.strike(0);
        x.ban(0, 11, true);
        List<Integer> row = new ArrayList<>();
        add(row, 5, 7, 7, 8, 1);
        add(row, ALL_MARKS, ALL_RIGHTS, 2053, 0, 1);
        add(row, 5, 3);
        add(row, 1, 11, 1);
        add(row, 0, 1, 0);
        add(row, 2048, 0, 0, 0, 0, 0, 0, 0, 0, 0, 0, 1);
        add(row, -1, -1, -1, -1);
        is("some of each", x.digest(), digest(row));
        is("again, as nothing has changed", x.digest(), digest(row));
    }

    private void digestOfAll() {
        says(40, "of each RIGHT those with which it is BANNED (bits)");
        LeastRights x = ten(ALL_MARKS, ALL_RIGHTS);
        x.standby(ALL_RIGHTS);
        x.later(999);
        List<Integer> row = new ArrayList<>();
        for (int p = 0; p < 10; p++) add(row, ALL_MARKS, ALL_RIGHTS, ALL_RIGHTS, 0, p == 9 ? 200 : 0);
        add(row, ALL_RIGHTS, 999);
        for (int u = 0; u < 200; u++) {
            x.use(9, u % 12, u);
            add(row, 9, u % 12, 999 - u);
        }
        for (int a = 0; a < 12; a++) {
            for (int b = a + 1; b < 12; b++) x.ban(a, b, true);
            add(row, ALL_RIGHTS - (1 << a));
        }
        for (int s = 0; s < 4; s++) {
            x.sheet(s, 10);
            x.save(s);
            add(row, 10);
            for (int i = 0; i < 10; i++) add(row, ALL_RIGHTS);
        }
        is("all that there may be", x.digest(), digest(row));
    }

    private void digestOfSheets() {
        says(40, "of each SHEET its size (-1: missing) and ints");
        LeastRights x = people(9);
        x.sheet(0, 0);
        x.sheet(2, 3);
        x.save(2);
        x.sheet(3, 10);
        x.tear(3);
        List<Integer> row = new ArrayList<>();
        add(row, 0, 9, 0, 0, 0);
        add(row, 0, 0);
        add(row, 0, 0, 0, 0, 0, 0, 0, 0, 0, 0, 0, 0);
        add(row, 0);
        add(row, -1);
        add(row, 3, 9, 0, 0);
        add(row, -1);
        is("one of no ints, a missing one, one of three, a torn one", x.digest(), digest(row));
    }
}
