/** Which refusal comes first where two would fit. */
final class OrderEdges extends Edges {
    OrderEdges(Due due) {
        super(due);
    }

    @Override
    void test() {
        personBadBeforeFull();
        useBadFullState();
        kindBadBeforeState();
        usesBadStateUnlike();
        rolesBadBeforeSpent();
        marksOfBadBeforeState();
        takeOutBadBeforeState();
        stoppedBadBeforeState();
        stopBadBeforeState();
        sheetBadBeforeSize();
        loadBadNothingBeyond();
        copyBadFirst();
        copySizeNothingBeyond();
    }

    private void order(int promise) {
        says(promise, "Refused is, the first of these that fits, in this order: "
            + "BAD -1 (a number that is none, or not as told), FULL -2, STATE -4 (not now), SPENT -6 (more tries than told), FINDING -3 (finding() tells which), "
            + "unless a call says so otherwise.");
    }

    private void personBadBeforeFull() {
        order(2);
        LeastRights x = ten(0, 0);
        is("full", x.person(0, 0), FULL);
        is("marks 256, full", x.person(256, 0), BAD);
        is("marks -1, full", x.person(-1, 0), BAD);
        is("rights 4096, full", x.person(0, 4096), BAD);
        is("rights -1, full", x.person(0, -1), BAD);
    }

    private void useBadFullState() {
        order(8);
        LeastRights x = fullLog();
        is("full", x.use(0, 0, 0), FULL);
        is("full, not had", x.use(0, 1, 0), FULL);
        is("a day to come, full, not had", x.use(0, 1, -1), BAD);
        is("a day before the first, full, had", x.use(0, 0, 1), BAD);
        is("right 12, full", x.use(0, 12, 0), BAD);
        is("right -1, full", x.use(0, -1, 0), BAD);
        is("person 1, full", x.use(1, 0, 0), BAD);
        LeastRights y = people(1);
        is("not had", y.use(0, 1, 0), STATE);
        is("a day to come, not had", y.use(0, 1, -1), BAD);
        is("a day before the first, not had", y.use(0, 1, 1), BAD);
    }

    private void kindBadBeforeState() {
        order(9);
        LeastRights x = people(0);
        is("not had", x.kind(0, 11), STATE);
        is("right 12 of one without rights", x.kind(0, 12), BAD);
        is("person 1, right 11", x.kind(1, 11), BAD);
    }

    private void usesBadStateUnlike() {
        order(10);
        LeastRights x = people(1);
        is("had, of another kind", x.uses(0, 0, 1), FINDING);
        is("not had, of another kind", x.uses(0, 1, 1), STATE);
        is("not had, kind 4", x.uses(0, 1, 4), BAD);
        is("not had, kind -1", x.uses(0, 1, -1), BAD);
        is("right 12, of another kind", x.uses(0, 12, 1), BAD);
        is("person 1, of another kind", x.uses(1, 0, 1), BAD);
        is("one finding alone", x.findings(UNLIKE), 1);
    }

    private void rolesBadBeforeSpent() {
        order(15);
        LeastRights x = keepers(1, 2);
        is("no try", x.roles(0), BAD);
        is("one try", x.roles(1), SPENT);
        LeastRights y = keepers(422, 94, 235, 158, 54, 345);
        is("20001 tries of which each is needed", y.roles(20001), BAD);
        is("20000 of them", y.roles(20000), SPENT);
    }

    private void marksOfBadBeforeState() {
        order(19);
        LeastRights x = new LeastRights();
        is("no people", x.marksOf(11), STATE);
        is("no people, right 12", x.marksOf(12), BAD);
        is("no people, right -1", x.marksOf(-1), BAD);
    }

    private void takeOutBadBeforeState() {
        order(26);
        LeastRights x = people(1);
        is("no plan", x.takeOut(0, 0), STATE);
        is("no plan, not had", x.takeOut(0, 1), STATE);
        is("no plan, right 12", x.takeOut(0, 12), BAD);
        is("no plan, right -1", x.takeOut(0, -1), BAD);
        is("no plan, person 1", x.takeOut(1, 0), BAD);
        is("no plan, person -1", x.takeOut(-1, 0), BAD);
        is("no plan, nobody", new LeastRights().takeOut(0, 0), BAD);
    }

    private void stoppedBadBeforeState() {
        order(27);
        LeastRights x = new LeastRights();
        is("no plan", x.stopped(1), STATE);
        is("no plan, n 0", x.stopped(0), BAD);
        is("no plan, n 1001", x.stopped(1001), BAD);
    }

    private void stopBadBeforeState() {
        order(28);
        LeastRights x = new LeastRights();
        is("no plan", x.stop(1000, HIGH), STATE);
        is("no plan, n 0", x.stop(0, 0), BAD);
        is("no plan, n 1001", x.stop(1001, 0), BAD);
        is("no plan, i -1", x.stop(1, -1), BAD);
    }

    private void sheetBadBeforeSize() {
        order(31);
        LeastRights x = new LeastRights();
        is("sheet 4 of -1 ints", x.sheet(4, -1), BAD);
        is("sheet -1 of -1 ints", x.sheet(-1, -1), BAD);
        is("no finding", x.finding(), 0);
        finds("sheet 3 of -1 ints", x, x.sheet(3, -1), SIZE);
    }

    private void loadBadNothingBeyond() {
        order(33);
        LeastRights x = people(1);
        x.sheet(0, 1);
        is("a missing sheet, person 1", x.load(1, 0, 1), BAD);
        is("a missing sheet, place -1, person -1", x.load(1, -1, -1), BAD);
        is("place 1 of 1, person 1", x.load(0, 1, 1), BAD);
        is("place 1 of 1, person -1", x.load(0, 1, -1), BAD);
        is("sheet 4, place -1", x.load(4, -1, 0), BAD);
        is("no finding", x.finding(), 0);
        finds("a missing sheet, place 10", x, x.load(1, 10, 0), NOTHING);
        finds("a missing sheet, place -1", x, x.load(1, -1, 0), NOTHING);
        finds("place 1 of 1", x, x.load(0, 1, 0), BEYOND);
    }

    private void copyBadFirst() {
        order(35);
        LeastRights x = people(1);
        x.sheet(0, 1);
        is("from sheet 4, n -1", x.copy(4, 0, 0, 0, -1), BAD);
        is("to sheet 4, n -1", x.copy(0, 0, 4, 0, -1), BAD);
        is("from sheet -1, to a missing one", x.copy(-1, 0, 1, 0, 1), BAD);
        is("from a missing one, to sheet -1", x.copy(1, 0, -1, 0, 1), BAD);
        is("from sheet 4, to place 1 of 1", x.copy(4, 0, 0, 1, 1), BAD);
        is("from place 1 of 1, to sheet 4", x.copy(0, 1, 4, 0, 1), BAD);
        is("no finding", x.finding(), 0);
    }

    private void copySizeNothingBeyond() {
        says(35, "BAD; SIZE: n below 0; NOTHING: either; BEYOND.");
        LeastRights x = people(1);
        x.sheet(0, 1);
        finds("n -1, from a missing one", x, x.copy(1, 0, 0, 0, -1), SIZE);
        finds("n -1, to a missing one", x, x.copy(0, 0, 1, 0, -1), SIZE);
        finds("n -1, at place 2 of 1", x, x.copy(0, 2, 0, 2, -1), SIZE);
        finds("n -1, at place -1", x, x.copy(0, -1, 0, 0, -1), SIZE);
        finds("from a missing one, to place 1 of 1", x, x.copy(1, 0, 0, 1, 1), NOTHING);
        finds("from place 1 of 1, to a missing one", x, x.copy(0, 1, 1, 0, 1), NOTHING);
        finds("from place -1 of a missing one", x, x.copy(1, -1, 0, 0, 1), NOTHING);
        finds("from place 1 of 1", x, x.copy(0, 1, 0, 0, 1), BEYOND);
        is("findings(1)", x.findings(NOTHING), 3);
        is("findings(2)", x.findings(BEYOND), 1);
        is("findings(4)", x.findings(SIZE), 4);
    }
}
