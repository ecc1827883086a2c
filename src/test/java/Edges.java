/** Tests of the document's edges: each begins with the sentence that it holds the class to. */
abstract class Edges {
    static final int LOW = Integer.MIN_VALUE, HIGH = Integer.MAX_VALUE;
    static final int BAD = -1, FULL = -2, FINDING = -3, STATE = -4, SPENT = -6, NONE = -9;
    static final int NOTHING = 1, BEYOND = 2, UNLIKE = 3, SIZE = 4;
    static final int HOLDING = 0, USED = 1, SELDOM = 2, STANDBY = 3;
    static final int ALL_MARKS = 255, ALL_RIGHTS = 4095, ALL_PEOPLE = 1023;

    private final Due due;

    Edges(Due due) {
        this.due = due;
    }

    abstract void test();

    final void says(int promise, String sentence) {
        due.says(promise, sentence);
    }

    final void is(String call, long got, long want) {
        due.is(call, got, want);
    }

    /** A call was answered with FINDING, and it is this one. */
    final void finds(String call, LeastRights x, long got, int finding) {
        due.is(call, got, FINDING);
        due.is("finding() after " + call, x.finding(), finding);
    }

    /** People with these rights and no marks. */
    static LeastRights people(int... rights) {
        LeastRights x = new LeastRights();
        for (int set : rights) x.person(0, set);
        return x;
    }

    /** People who keep all of these rights. */
    static LeastRights keepers(int... rights) {
        LeastRights x = people(rights);
        x.standby(ALL_RIGHTS);
        return x;
    }

    /** Ten people with the same marks and rights. */
    static LeastRights ten(int marks, int rights) {
        LeastRights x = new LeastRights();
        for (int p = 0; p < 10; p++) x.person(marks, rights);
        return x;
    }

    /** One person with one right, with all uses that there may be, on day 0. */
    static LeastRights fullLog() {
        LeastRights x = people(1);
        for (int u = 0; u < 400; u++) x.use(0, 0, 0);
        return x;
    }
}
