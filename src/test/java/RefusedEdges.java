import java.util.List;
import java.util.function.Supplier;
import java.util.function.ToLongFunction;

/**
 * What is refused changes nothing: of two objects that were made alike, one is asked for what is
 * refused; both then tell the same, now and as they go on.
 */
final class RefusedEdges extends Edges {
    private interface Call {
        long on(LeastRights x, int number);
    }

    RefusedEdges(Due due) {
        super(due);
    }

    @Override
    void test() {
        badOnPeople();
        badOnUses();
        badOnRoles();
        badOnPlans();
        badOnSheets();
        badOnTold();
        full();
        notNow();
        findings();
        spent();
    }

    /**
     * Three people with something of everything: a rule, uses, struck rights, asks, bans, roles, a
     * plan from which a right is taken out, sheets of 3, 0 and 10 ints and a missing one. Day 11.
     */
    private static LeastRights rich() {
        LeastRights x = unplanned();
        x.plan(true);
        x.takeOut(1, 5);
        x.change(2, 1, 7);
        return x;
    }

    private static LeastRights unplanned() {
        LeastRights x = new LeastRights();
        x.person(3, 2047);
        x.person(5, 3071);
        x.person(6, 6);
        x.rule(4, 25, 7);
        x.standby(2);
        x.use(1, 5, 0);
        x.use(0, 0, 0);
        x.later(9);
        x.use(0, 2, 0);
        x.use(1, 5, 1);
        x.use(2, 2, 0);
        x.ban(0, 1, true);
        x.ban(2, 1, true);
        x.strike(0);
        x.ask(0, 10);
        x.ask(1, 0);
        x.ask(1, 10);
        x.marksOf(10);
        x.roles(20000);
        x.sheet(0, 3);
        x.save(0);
        x.sheet(1, 0);
        x.sheet(2, 10);
        x.tear(3);
        x.later(2);
        return x;
    }

    private static LeastRights newcomer() {
        LeastRights x = rich();
        x.person(7, 9);
        return x;
    }

    private static LeastRights crowd() {
        LeastRights x = rich();
        for (int p = 3; p < 10; p++) x.person(p, 100 * p);
        x.plan(false);
        return x;
    }

    private static LeastRights fullPlanned() {
        LeastRights x = fullLog();
        x.plan(false);
        return x;
    }

    private void refused(int promise, String call, Supplier<LeastRights> made,
            ToLongFunction<LeastRights> what, int want) {
        says(promise, "What is refused changes nothing but finding(), findings().");
        LeastRights x = made.get();
        LeastRights twin = made.get();
        is(call, what.applyAsLong(x), want);
        is("finding() after " + call, x.finding(), twin.finding());
        for (int f = 1; f <= 4; f++) is("findings(" + f + ") after " + call, x.findings(f), twin.findings(f));
        alike(call, x, twin);
    }

    private void finding(int promise, String call, ToLongFunction<LeastRights> what, int finding) {
        says(promise, "What is refused changes nothing but finding(), findings().");
        LeastRights x = rich();
        LeastRights twin = rich();
        finds(call, x, what.applyAsLong(x), finding);
        for (int f = 1; f <= 4; f++) {
            int more = f == finding ? 1 : 0;
            is("findings(" + f + ") after " + call, x.findings(f), twin.findings(f) + more);
        }
        alike(call, x, twin);
    }

    private void alike(String call, LeastRights x, LeastRights twin) {
        List<String> row = new Telling(x).now().onward().row();
        List<String> due = new Telling(twin).now().onward().row();
        is("how much is told after " + call, row.size(), due.size());
        for (int k = 0; k < row.size() && k < due.size(); k++) {
            boolean isSame = row.get(k).equals(due.get(k));
            is("after " + call + ": " + row.get(k) + " for " + due.get(k) + ", 1 if so", isSame ? 1 : 0, 1);
        }
    }

    /** The call is BAD for the last number before the right ones, the first one behind them, and far ones. */
    private void outside(int promise, String call, int before, int behind, Call what) {
        for (int number : new int[] {LOW, before, behind, HIGH}) {
            refused(promise, call + " with " + number, RefusedEdges::rich, x -> what.on(x, number), BAD);
        }
    }

    private void badOnPeople() {
        outside(2, "person(n, 1)", -1, 256, (x, n) -> x.person(n, 1));
        outside(2, "person(1, n)", -1, 4096, (x, n) -> x.person(1, n));
        outside(3, "change(n, 0, 1)", -1, 3, (x, n) -> x.change(n, 0, 1));
        outside(3, "change(n, 1, 1)", -1, 3, (x, n) -> x.change(n, 1, 1));
        outside(3, "change(0, n, 1)", -1, 2, (x, n) -> x.change(0, n, 1));
        outside(3, "change(0, 0, n)", -1, 256, (x, n) -> x.change(0, 0, n));
        outside(3, "change(0, 1, n)", -1, 4096, (x, n) -> x.change(0, 1, n));
        outside(4, "told(n, 0)", -1, 3, (x, n) -> x.told(n, 0));
        outside(4, "told(0, n)", -1, 5, (x, n) -> x.told(0, n));
        outside(5, "standby(n)", -1, 4096, (x, n) -> x.standby(n));
        outside(6, "rule(n, 1, 0)", 0, 1000, (x, n) -> x.rule(n, 1, 0));
        outside(6, "rule(1, n, 0)", 0, 1000, (x, n) -> x.rule(1, n, 0));
        outside(6, "rule(1, 1, n)", -1, 1000, (x, n) -> x.rule(1, 1, n));
        outside(7, "later(n)", -1, 989, (x, n) -> x.later(n));
    }

    private void badOnUses() {
        outside(8, "use(n, 1, 0)", -1, 3, (x, n) -> x.use(n, 1, 0));
        outside(8, "use(0, n, 0)", -1, 12, (x, n) -> x.use(0, n, 0));
        outside(8, "use(0, 0, n)", -1, 12, (x, n) -> x.use(0, 0, n));
        outside(9, "kind(n, 1)", -1, 3, (x, n) -> x.kind(n, 1));
        outside(9, "kind(0, n)", -1, 12, (x, n) -> x.kind(0, n));
        outside(10, "uses(n, 1, 0)", -1, 3, (x, n) -> x.uses(n, 1, 0));
        outside(10, "uses(0, n, 0)", -1, 12, (x, n) -> x.uses(0, n, 0));
        outside(10, "uses(0, 0, n)", -1, 4, (x, n) -> x.uses(0, 0, n));
        outside(11, "strike(n)", -1, 3, (x, n) -> x.strike(n));
        outside(12, "ask(n, 1)", -1, 3, (x, n) -> x.ask(n, 1));
        outside(12, "ask(0, n)", -1, 12, (x, n) -> x.ask(0, n));
        outside(13, "asks(n)", -1, 3, (x, n) -> x.asks(n));
    }

    private void badOnRoles() {
        outside(15, "roles(n)", 0, 20001, (x, n) -> x.roles(n));
        outside(18, "rolesOf(n)", -1, 3, (x, n) -> x.rolesOf(n));
        outside(19, "marksOf(n)", -1, 12, (x, n) -> x.marksOf(n));
        outside(20, "exceptions(n, 0)", -1, 12, (x, n) -> x.exceptions(n, 0));
        outside(20, "exceptions(0, n)", -1, 256, (x, n) -> x.exceptions(0, n));
        outside(21, "ban(n, 3, true)", -1, 12, (x, n) -> x.ban(n, 3, true));
        outside(21, "ban(3, n, true)", -1, 12, (x, n) -> x.ban(3, n, true));
        outside(21, "ban(n, 1, false)", -1, 12, (x, n) -> x.ban(n, 1, false));
        outside(21, "ban(1, n, false)", -1, 12, (x, n) -> x.ban(1, n, false));
        refused(21, "ban(0, 0, true)", RefusedEdges::rich, x -> x.ban(0, 0, true), BAD);
        refused(21, "ban(11, 11, true)", RefusedEdges::rich, x -> x.ban(11, 11, true), BAD);
        refused(21, "ban(1, 1, false)", RefusedEdges::rich, x -> x.ban(1, 1, false), BAD);
        outside(23, "least(n)", -1, 3, (x, n) -> x.least(n));
    }

    private void badOnPlans() {
        outside(26, "takeOut(n, 1)", -1, 3, (x, n) -> x.takeOut(n, 1));
        outside(26, "takeOut(0, n)", -1, 12, (x, n) -> x.takeOut(0, n));
        refused(26, "takeOut(3, 0), who came since", RefusedEdges::newcomer, x -> x.takeOut(3, 0), BAD);
        outside(27, "stopped(n)", 0, 1001, (x, n) -> x.stopped(n));
        outside(28, "stop(n, 0)", 0, 1001, (x, n) -> x.stop(n, 0));
        refused(28, "stop(1, -1)", RefusedEdges::rich, x -> x.stop(1, -1), BAD);
        refused(28, "stop(1, LOW)", RefusedEdges::rich, x -> x.stop(1, LOW), BAD);
        outside(29, "used(n, 0)", -1, 5, (x, n) -> x.used(n, 0));
        outside(29, "used(0, n)", -1, 3, (x, n) -> x.used(0, n));
    }

    private void badOnSheets() {
        outside(31, "sheet(n, 1)", -1, 4, (x, n) -> x.sheet(n, 1));
        refused(31, "sheet(0, 11)", RefusedEdges::rich, x -> x.sheet(0, 11), BAD);
        refused(31, "sheet(3, HIGH)", RefusedEdges::rich, x -> x.sheet(3, HIGH), BAD);
        outside(32, "save(n)", -1, 4, (x, n) -> x.save(n));
        outside(33, "load(n, 0, 0)", -1, 4, (x, n) -> x.load(n, 0, 0));
        outside(33, "load(0, 0, n)", -1, 3, (x, n) -> x.load(0, 0, n));
        outside(34, "tear(n)", -1, 4, (x, n) -> x.tear(n));
        outside(35, "copy(n, 0, 2, 0, 1)", -1, 4, (x, n) -> x.copy(n, 0, 2, 0, 1));
        outside(35, "copy(0, 0, n, 0, 1)", -1, 4, (x, n) -> x.copy(0, 0, n, 0, 1));
    }

    private void badOnTold() {
        outside(37, "count(n)", -1, 6, (x, n) -> x.count(n));
        outside(39, "findings(n)", 0, 5, (x, n) -> x.findings(n));
    }

    private void full() {
        refused(2, "person(1, 1), an eleventh", RefusedEdges::crowd, x -> x.person(1, 1), FULL);
        refused(8, "use(0, 0, 0), use 401", RefusedEdges::fullPlanned, x -> x.use(0, 0, 0), FULL);
    }

    private void notNow() {
        refused(8, "use(0, 3, 0), not had", RefusedEdges::rich, x -> x.use(0, 3, 0), STATE);
        refused(9, "kind(0, 3), not had", RefusedEdges::rich, x -> x.kind(0, 3), STATE);
        refused(10, "uses(0, 3, 0), not had", RefusedEdges::rich, x -> x.uses(0, 3, 0), STATE);
        refused(19, "marksOf(0), no people", LeastRights::new, x -> x.marksOf(0), STATE);
        refused(26, "takeOut(0, 0), no plan", RefusedEdges::unplanned, x -> x.takeOut(0, 0), STATE);
        refused(27, "stopped(1), no plan", RefusedEdges::unplanned, x -> x.stopped(1), STATE);
        refused(28, "stop(1, 0), no plan", RefusedEdges::unplanned, x -> x.stop(1, 0), STATE);
        refused(30, "apply(), no plan", RefusedEdges::unplanned, x -> x.apply(), STATE);
        refused(30, "apply(), one came since", RefusedEdges::newcomer, x -> x.apply(), STATE);
    }

    private void findings() {
        finding(10, "uses(1, 0, 1)", x -> x.uses(1, 0, 1), UNLIKE);
        finding(31, "sheet(0, -1)", x -> x.sheet(0, -1), SIZE);
        finding(31, "sheet(3, LOW)", x -> x.sheet(3, LOW), SIZE);
        finding(32, "save(3)", x -> x.save(3), NOTHING);
        finding(33, "load(3, 0, 0)", x -> x.load(3, 0, 0), NOTHING);
        finding(33, "load(0, 3, 0)", x -> x.load(0, 3, 0), BEYOND);
        finding(33, "load(0, -1, 0)", x -> x.load(0, -1, 0), BEYOND);
        finding(33, "load(1, 0, 0)", x -> x.load(1, 0, 0), BEYOND);
        finding(34, "tear(3)", x -> x.tear(3), NOTHING);
        finding(35, "copy(0, 0, 2, 0, -1)", x -> x.copy(0, 0, 2, 0, -1), SIZE);
        finding(35, "copy(3, 0, 2, 0, 1)", x -> x.copy(3, 0, 2, 0, 1), NOTHING);
        finding(35, "copy(0, 0, 3, 0, 1)", x -> x.copy(0, 0, 3, 0, 1), NOTHING);
        finding(35, "copy(0, 1, 2, 0, 3)", x -> x.copy(0, 1, 2, 0, 3), BEYOND);
        finding(35, "copy(0, 0, 2, 8, 3)", x -> x.copy(0, 0, 2, 8, 3), BEYOND);
        finding(35, "copy(0, 0, 0, 1, 3)", x -> x.copy(0, 0, 0, 1, 3), BEYOND);
        finding(35, "copy(0, -1, 2, 0, 2)", x -> x.copy(0, -1, 2, 0, 2), BEYOND);
        finding(35, "copy(0, 0, 2, -1, 2)", x -> x.copy(0, 0, 2, -1, 2), BEYOND);
    }

    /** A spent roles() changes what is told of roles and of tries, and that alone. */
    private void spent() {
        says(15, "BAD; SPENT. (None are told then.)");
        LeastRights x = rich();
        LeastRights twin = rich();
        is("roles(1)", x.roles(1), SPENT);
        is("tries()", x.tries(), 1);
        is("role(0)", x.role(0), NONE);
        is("finding()", x.finding(), twin.finding());
        is("roles(20000)", x.roles(20000), twin.roles(20000));
        alike("roles(1) and roles(20000)", x, twin);
    }
}
