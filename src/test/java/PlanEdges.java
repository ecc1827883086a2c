/** Edges of promises 25 to 35: plans, what they would have stopped, sheets. */
final class PlanEdges extends Edges {
    PlanEdges(Due due) {
        super(due);
    }

    @Override
    void test() {
        planNothingAndAll();
        planOfThatTime();
        takeOutArguments();
        takeOutCameSince();
        takeOutNotIn();
        stoppedDays();
        stoppedLastDays();
        stoppedNothingAndAll();
        stoppedByThePlan();
        stopDays();
        stopFrom();
        stopFull();
        usedWhat();
        usedFull();
        applyState();
        applyNothingAndAll();
        applyStrikesNow();
        applyGives();
        applyLeavesStruck();
        askEndsOneAlone();
        sheetNumbers();
        sheetSizes();
        sheetIsZero();
        saveArguments();
        saveRoom();
        saveTheRest();
        loadArguments();
        loadPlaces();
        loadAsChange();
        tearMissing();
        copyArguments();
        copySize();
        copyNothing();
        copyPlaces();
        copyNone();
        copyWrapsNot();
        copyItself();
        copyFull();
    }

    private void planNothingAndAll() {
        says(25, "THE PLAN is what all have (keep: KEPT) now: how many HOLDINGS.");
        is("nobody", new LeastRights().plan(false), 0);
        is("nobody, kept", new LeastRights().plan(true), 0);
        is("ten without rights", ten(0, 0).plan(false), 0);
        LeastRights x = ten(0, ALL_RIGHTS);
        is("ten with all", x.plan(false), 120);
        is("ten who keep none", x.plan(true), 0);
        x.standby(ALL_RIGHTS);
        is("ten who keep all", x.plan(true), 120);
        x.standby(2048);
        is("ten who keep the last", x.plan(true), 10);
        is("all have what they had", x.count(3), 120);
    }

    private void planOfThatTime() {
        says(25, "what they had as plan() was called, less what is taken out by hand");
        LeastRights x = people(3);
        x.standby(1);
        x.plan(true);
        x.standby(3);
        x.change(0, 1, 7);
        is("kept then", x.takeOut(0, 0), 1);
        is("kept only since", x.takeOut(0, 1), 0);
        is("had only since", x.takeOut(0, 2), 0);
        is("a new plan", x.plan(false), 3);
        x.change(0, 1, 0);
        for (int r = 0; r < 3; r++) is("had then, right " + r, x.takeOut(0, r), 1);
        is("a plan of nothing", x.plan(false), 0);
        is("nothing to take out", x.takeOut(0, 0), 0);
    }

    private void takeOutArguments() {
        says(26, "A RIGHT is taken out of THE PLAN: 1; 0: it was not in it.");
        LeastRights x = people(ALL_RIGHTS, ALL_RIGHTS);
        x.plan(false);
        for (int r : new int[] {LOW, -1, 12, 13, 32, HIGH}) is("right " + r, x.takeOut(0, r), BAD);
        for (int p : new int[] {LOW, -1, 2, 10, HIGH}) is("person " + p, x.takeOut(p, 0), BAD);
        is("the first right of the first", x.takeOut(0, 0), 1);
        is("the last right of the last", x.takeOut(1, 11), 1);
        is("it is had still", x.told(1, 1), ALL_RIGHTS);
        is("apply()", x.apply(), 2);
        is("told(0, 1)", x.told(0, 1), ALL_RIGHTS - 1);
        is("told(1, 1)", x.told(1, 1), ALL_RIGHTS - 2048);
    }

    private void takeOutCameSince() {
        says(26, "BAD: also a PERSON that came since; STATE: there is none.");
        LeastRights x = people(1);
        is("there is none", x.takeOut(0, 0), STATE);
        x.plan(false);
        x.person(0, 1);
        is("the last one before", x.takeOut(0, 0), 1);
        is("the first one since", x.takeOut(1, 0), BAD);
        x.plan(false);
        is("in a plan since", x.takeOut(1, 0), 1);
        LeastRights y = new LeastRights();
        y.plan(false);
        is("nobody is there", y.takeOut(0, 0), BAD);
        y.person(0, 1);
        is("a plan for nobody", y.takeOut(0, 0), BAD);
        LeastRights full = ten(0, 1);
        full.plan(false);
        is("the last of ten", full.takeOut(9, 0), 1);
    }

    private void takeOutNotIn() {
        says(26, "0: it was not in it");
        LeastRights x = people(2, 0);
        x.plan(false);
        is("never in", x.takeOut(0, 0), 0);
        is("in", x.takeOut(0, 1), 1);
        is("taken out already", x.takeOut(0, 1), 0);
        for (int r = 0; r < 12; r++) is("of one with nothing, right " + r, x.takeOut(1, r), 0);
        is("two of them do not meet", x.apply(), 1);
    }

    /** A person with right 0, which is out of the plan, used on each of the days 0 .. days. */
    private static LeastRights daily(int days) {
        LeastRights x = people(1);
        x.use(0, 0, 0);
        for (int day = 1; day <= days; day++) {
            x.later(1);
            x.use(0, 0, 0);
        }
        x.plan(false);
        x.takeOut(0, 0);
        return x;
    }

    private void stoppedDays() {
        says(27, "for the last n DAYS (1 .. 1000). BAD; STATE.");
        LeastRights x = daily(5);
        for (int n : new int[] {LOW, -1, 0, 1001, 1002, HIGH}) is("stopped(" + n + ")", x.stopped(n), BAD);
        is("stopped(1)", x.stopped(1), 1);
        is("stopped(1000)", x.stopped(1000), 6);
        is("no plan, stopped(1)", people(1).stopped(1), STATE);
        is("no plan, stopped(1000)", people(1).stopped(1000), STATE);
    }

    private void stoppedLastDays() {
        says(27, "USES of the last n DAYS (the PRESENT one and n - 1 before)");
        LeastRights x = daily(5);
        for (int n = 1; n <= 6; n++) is("stopped(" + n + ")", x.stopped(n), n);
        is("more days than there were", x.stopped(7), 6);
        x.later(1);
        is("none today", x.stopped(1), 0);
        is("one the day before", x.stopped(2), 1);
        x.later(993);
        is("on day 999, for 999 days: not the first day", x.stopped(999), 5);
        is("on day 999, for 1000 days: the first day, too", x.stopped(1000), 6);
        is("on day 999, for 994 days", x.stopped(994), 0);
        is("on day 999, for 995 days", x.stopped(995), 1);
    }

    private void stoppedNothingAndAll() {
        says(27, "How many USES are STOPPED by THE PLAN");
        LeastRights none = people(1);
        none.plan(false);
        is("no uses", none.stopped(1000), 0);
        LeastRights full = fullLog();
        full.plan(false);
        is("none of 400", full.stopped(1), 0);
        full.takeOut(0, 0);
        is("all of 400", full.stopped(1), 400);
    }

    private void stoppedByThePlan() {
        says(27, "of RIGHTS that THE PLAN has not for that PERSON");
        LeastRights x = people(3, 3);
        x.use(0, 0, 0);
        x.use(1, 0, 0);
        x.use(1, 1, 0);
        x.plan(false);
        x.takeOut(1, 0);
        is("of that person alone", x.stopped(1), 1);
        x.change(0, 1, 0);
        is("had no more, but in the plan", x.stopped(1), 1);
        x.apply();
        x.change(1, 1, 3);
        is("had again, but not in the plan", x.stopped(1), 1);
        x.person(0, 1);
        x.use(2, 0, 0);
        is("one who came since is not in the plan", x.stopped(1), 2);
        x.plan(false);
        is("a new plan", x.stopped(1), 0);
    }

    private void stopDays() {
        says(28, "BAD: n, i below 0; STATE.");
        LeastRights x = daily(5);
        for (int n : new int[] {LOW, -1, 0, 1001, 1002, HIGH}) is("stop(" + n + ", 0)", x.stop(n, 0), BAD);
        for (int i : new int[] {LOW, -2, -1}) is("stop(1, " + i + ")", x.stop(1, i), BAD);
        is("stop(1, 0)", x.stop(1, 0), 5);
        is("stop(1000, 0)", x.stop(1000, 0), 0);
        is("no plan", people(1).stop(1, 0), STATE);
        for (int n = 1; n <= 6; n++) is("stop(" + n + ", 0)", x.stop(n, 0), 6 - n);
        x.later(994);
        is("on day 999, for 999 days", x.stop(999, 0), 1);
        is("on day 999, for 1000 days", x.stop(1000, 0), 0);
    }

    private void stopFrom() {
        says(28, "The first USE (by how they were told, 0, 1, ..) that is STOPPED so, from USE i on; NONE.");
        LeastRights x = people(3);
        x.later(9);
        x.use(0, 0, 0);
        x.use(0, 1, 0);
        x.use(0, 0, 9);
        x.use(0, 1, 0);
        x.plan(false);
        x.takeOut(0, 0);
        int[] want = {0, 2, 2, NONE, NONE, NONE};
        for (int i = 0; i < want.length; i++) is("stop(1000, " + i + ")", x.stop(1000, i), want[i]);
        is("not so long ago", x.stop(9, 1), NONE);
        is("so long ago", x.stop(10, 1), 2);
        is("far", x.stop(1000, HIGH), NONE);
        x.takeOut(0, 1);
        is("the last", x.stop(1000, 3), 3);
        is("behind the last", x.stop(1000, 4), NONE);
        LeastRights none = people(1);
        none.plan(false);
        is("no uses", none.stop(1000, 0), NONE);
    }

    private void stopFull() {
        says(28, "from USE i on; NONE");
        LeastRights x = fullLog();
        x.plan(false);
        is("none of 400", x.stop(1, 0), NONE);
        x.takeOut(0, 0);
        is("the first of 400", x.stop(1, 0), 0);
        is("the last of 400", x.stop(1, 399), 399);
        is("behind the last of 400", x.stop(1, 400), NONE);
        is("two behind it", x.stop(1, 401), NONE);
    }

    private void usedWhat() {
        says(29, "Of a USE: 0 the PERSON, 1 the RIGHT, 2 the DAY. BAD.");
        LeastRights x = people(ALL_RIGHTS, ALL_RIGHTS);
        is("no uses", x.used(0, 0), BAD);
        x.later(999);
        x.use(1, 11, 0);
        x.use(0, 0, 999);
        int[][] want = {{1, 11, 999}, {0, 0, 0}};
        for (int u = 0; u < 2; u++) {
            for (int what = 0; what <= 2; what++) is("used(" + u + ", " + what + ")", x.used(u, what), want[u][what]);
            for (int what : new int[] {LOW, -1, 3, 4, HIGH}) is("used(" + u + ", " + what + ")", x.used(u, what), BAD);
        }
        for (int u : new int[] {LOW, -1, 2, 399, 400, HIGH}) {
            for (int what = 0; what <= 2; what++) is("used(" + u + ", " + what + ")", x.used(u, what), BAD);
        }
    }

    private void usedFull() {
        says(29, "Of a USE: 0 the PERSON, 1 the RIGHT, 2 the DAY. BAD.");
        LeastRights x = people(0, 2049);
        for (int u = 0; u < 399; u++) x.use(1, 0, 0);
        x.later(7);
        x.use(1, 11, 2);
        int[] want = {1, 11, 5};
        for (int what = 0; what <= 2; what++) is("used(399, " + what + ")", x.used(399, what), want[what]);
        is("the one before", x.used(398, 2), 0);
        is("used(400, 0)", x.used(400, 0), BAD);
        x.use(1, 0, 0);
        is("used(400, 0) after one too many", x.used(400, 0), BAD);
    }

    private void applyState() {
        says(30, "STATE: there is none, a PERSON came since.");
        LeastRights x = new LeastRights();
        is("there is none", x.apply(), STATE);
        x.plan(false);
        is("a plan for nobody", x.apply(), 0);
        x.person(0, 3);
        is("one came since", x.apply(), STATE);
        is("its rights", x.told(0, 1), 3);
        is("a plan again", x.plan(true), 0);
        is("nobody came since", x.apply(), 2);
        is("again", x.apply(), 0);
        LeastRights full = ten(0, 1);
        full.plan(true);
        is("an eleventh is refused", full.person(0, 1), FULL);
        is("so nobody came since", full.apply(), 10);
    }

    private void applyNothingAndAll() {
        says(30, "how many HOLDINGS go");
        LeastRights x = ten(0, ALL_RIGHTS);
        x.plan(false);
        is("none", x.apply(), 0);
        is("nothing is struck", x.told(9, 3), 0);
        x.plan(true);
        is("all", x.apply(), 120);
        for (int p = 0; p < 10; p++) {
            is("rights of " + p, x.told(p, 1), 0);
            is("struck of " + p, x.told(p, 3), ALL_RIGHTS);
        }
        is("none are left", x.apply(), 0);
        LeastRights none = ten(0, 0);
        none.plan(false);
        is("ten without rights", none.apply(), 0);
    }

    private void applyStrikesNow() {
        says(30, "What all have becomes THE PLAN (what goes is STRUCK now)");
        LeastRights x = people(1, 3);
        x.rule(1, 999, 5);
        x.plan(false);
        x.takeOut(0, 0);
        x.later(7);
        x.change(1, 1, 7);
        is("one of each goes", x.apply(), 2);
        is("what was given since is struck, too", x.told(1, 3), 4);
        x.later(5);
        is("five days since apply(), twelve since plan()", x.ask(0, 0), 1);
        x.later(1);
        is("six days since apply()", x.ask(1, 2), 0);
        is("the plan is there still", x.apply(), 1);
        is("what came back has gone again", x.told(0, 1), 0);
    }

    private void applyGives() {
        says(30, "What all have becomes THE PLAN");
        LeastRights x = people(3, 4);
        x.plan(false);
        x.change(0, 1, 8);
        x.strike(1);
        is("one goes, three come", x.apply(), 1);
        is("told(0, 1)", x.told(0, 1), 3);
        is("told(1, 1)", x.told(1, 1), 4);
        is("told(0, 3)", x.told(0, 3), 8);
    }

    /** Asking, change() and load() end it, by their own words; those of apply() do not. */
    private void applyLeavesStruck() {
        says(30, "(what goes is STRUCK now)");
        LeastRights x = people(6);
        x.rule(1, 999, 5);
        x.plan(false);
        x.strike(0);
        x.later(3);
        is("none go, two come", x.apply(), 0);
        is("they are struck still", x.told(0, 3), 6);
        x.takeOut(0, 1);
        is("one of them goes again", x.apply(), 1);
        x.change(0, 1, 0);
        x.later(3);
        is("struck anew, three days ago", x.ask(0, 1), 1);
        is("went by change(), struck six days ago", x.ask(0, 2), 0);
    }

    private void askEndsOneAlone() {
        says(12, "comes back, if it is STRUCK since g DAYS or less (g: THE GRACE, 0 .. 999; 60 at first), "
            + "and is STRUCK no more then.");
        LeastRights x = people(6);
        x.plan(false);
        x.strike(0);
        x.apply();
        x.takeOut(0, 1);
        x.apply();
        is("has it", x.ask(0, 2), 2);
        is("both are struck", x.told(0, 3), 6);
        is("comes back", x.ask(0, 1), 1);
        is("the other one is struck still", x.told(0, 3), 4);
        x.change(0, 1, 6);
        is("given by hand, though one had it", x.told(0, 3), 0);
    }

    private void sheetNumbers() {
        says(31, "SHEETS 0 .. 3 are rows of 0 to 10 ints, or missing (at first).");
        LeastRights x = new LeastRights();
        for (int s : new int[] {LOW, -1, 4, 5, HIGH}) is("sheet(" + s + ", 1)", x.sheet(s, 1), BAD);
        for (int s = 0; s < 4; s++) finds("missing at first, " + s, x, x.tear(s), NOTHING);
        for (int s = 0; s < 4; s++) is("sheet(" + s + ", 1)", x.sheet(s, 1), 1);
        for (int s = 0; s < 4; s++) is("tear(" + s + ")", x.tear(s), 1);
    }

    private void sheetSizes() {
        says(31, "A SHEET is there with n ints 0: n. BAD: no SHEET, n above 10; SIZE.");
        LeastRights x = people(1);
        for (int n : new int[] {11, 12, HIGH}) is("sheet(0, " + n + ")", x.sheet(0, n), BAD);
        is("no finding by that", x.finding(), 0);
        for (int n : new int[] {-1, -2, LOW}) finds("sheet(0, " + n + ")", x, x.sheet(0, n), SIZE);
        finds("it is missing still", x, x.save(0), NOTHING);
        for (int n = 0; n <= 10; n++) {
            is("sheet(0, " + n + ")", x.sheet(0, n), n);
            finds("place " + n + " of " + n, x, x.load(0, n, 0), BEYOND);
            if (n > 0) is("place " + (n - 1) + " of " + n, x.load(0, n - 1, 0), 1);
        }
        x.sheet(0, 11);
        x.sheet(0, -1);
        is("its size is as before", x.load(0, 9, 0), 1);
    }

    private void sheetIsZero() {
        says(31, "A SHEET is there with n ints 0: n.");
        LeastRights x = ten(0, 5);
        x.sheet(2, 10);
        x.save(2);
        is("one with no ints", x.sheet(2, 0), 0);
        is("a full one again", x.sheet(2, 10), 10);
        for (int p = 0; p < 10; p++) {
            x.load(2, p, p);
            is("place " + p, x.told(p, 1), 0);
        }
        x.change(0, 1, 5);
        x.save(2);
        is("the same size again", x.sheet(2, 10), 10);
        x.load(2, 0, 0);
        is("its first place", x.told(0, 1), 0);
    }

    private void saveArguments() {
        says(32, "BAD; NOTHING.");
        LeastRights x = people(1);
        for (int s : new int[] {LOW, -1, 4, 5, HIGH}) is("save(" + s + ")", x.save(s), BAD);
        is("no finding by that", x.finding(), 0);
        finds("save(0)", x, x.save(0), NOTHING);
        finds("save(3)", x, x.save(3), NOTHING);
        x.sheet(0, 1);
        x.sheet(3, 1);
        is("save(0), there", x.save(0), 1);
        is("save(3), there", x.save(3), 1);
        x.tear(3);
        finds("save(3), torn", x, x.save(3), NOTHING);
        is("findings(1)", x.findings(1), 3);
    }

    private void saveRoom() {
        says(32, "A SHEET has RIGHTS of all PEOPLE, the first ones, as many as it has room for: how many.");
        LeastRights x = new LeastRights();
        x.sheet(0, 0);
        x.sheet(1, 2);
        x.sheet(2, 10);
        for (int s = 0; s < 3; s++) is("nobody, save(" + s + ")", x.save(s), 0);
        for (int p = 0; p < 10; p++) {
            x.person(0, ALL_RIGHTS - p);
            is("no room, for " + (p + 1), x.save(0), 0);
            is("room for two, for " + (p + 1), x.save(1), Math.min(2, p + 1));
            is("room for ten, for " + (p + 1), x.save(2), p + 1);
        }
        x.load(1, 0, 9);
        is("the first in the short one", x.told(9, 1), ALL_RIGHTS);
        x.load(1, 1, 9);
        is("the second in the short one", x.told(9, 1), ALL_RIGHTS - 1);
        for (int p = 0; p < 10; p++) {
            x.load(2, p, 9);
            is("place " + p, x.told(9, 1), ALL_RIGHTS - p);
        }
    }

    private void saveTheRest() {
        says(32, "the first ones, as many as it has room for");
        LeastRights x = people(7);
        x.sheet(0, 1);
        x.sheet(1, 2);
        x.save(0);
        x.copy(0, 0, 1, 1, 1);
        is("one of two places", x.save(1), 1);
        x.change(0, 1, 0);
        x.load(1, 1, 0);
        is("the place behind the last person is as it was", x.told(0, 1), 7);
    }

    private void loadArguments() {
        says(33, "BAD: the SHEET, the PERSON; NOTHING; BEYOND.");
        LeastRights x = people(1, 2);
        x.sheet(0, 1);
        for (int s : new int[] {LOW, -1, 4, 5, HIGH}) is("sheet " + s, x.load(s, 0, 0), BAD);
        for (int p : new int[] {LOW, -1, 2, 10, HIGH}) is("person " + p, x.load(0, 0, p), BAD);
        is("no finding by that", x.finding(), 0);
        finds("sheet 3", x, x.load(3, 0, 0), NOTHING);
        is("rights of 0", x.told(0, 1), 1);
        is("rights of 1", x.told(1, 1), 2);
        is("the first person", x.load(0, 0, 0), 1);
        is("the last person", x.load(0, 0, 1), 1);
        is("rights of 0 then", x.told(0, 1), 0);
        is("rights of 1 then", x.told(1, 1), 0);
        LeastRights nobody = new LeastRights();
        nobody.sheet(0, 1);
        is("nobody is there", nobody.load(0, 0, 0), BAD);
    }

    private void loadPlaces() {
        says(33, "RIGHTS of a PERSON become what stands in a SHEET at place i");
        LeastRights x = ten(0, ALL_RIGHTS);
        x.sheet(0, 10);
        x.save(0);
        x.change(9, 1, 1);
        for (int i : new int[] {LOW, -1, 10, 11, HIGH}) finds("place " + i, x, x.load(0, i, 9), BEYOND);
        is("findings(2)", x.findings(2), 5);
        is("rights as before", x.told(9, 1), 1);
        is("the last place", x.load(0, 9, 9), 1);
        is("all rights", x.told(9, 1), ALL_RIGHTS);
        is("the first place", x.load(0, 0, 8), 1);
        x.sheet(1, 0);
        finds("the first place of a sheet of no ints", x, x.load(1, 0, 0), BEYOND);
        x.sheet(0, 3);
        finds("a place that a larger one had", x, x.load(0, 3, 0), BEYOND);
        is("the last place of a smaller one", x.load(0, 2, 0), 1);
    }

    private void loadAsChange() {
        says(33, "as by change(): 1");
        LeastRights x = people(2049, 7);
        x.sheet(0, 2);
        x.save(0);
        x.strike(0);
        is("struck", x.told(0, 3), 2049);
        x.load(0, 1, 0);
        is("what is given so is struck no more", x.told(0, 3), 2048);
        x.load(0, 0, 0);
        is("all of it is given", x.told(0, 3), 0);
        is("what goes so is not struck", x.ask(0, 1), 0);
        is("the other one has what it had", x.told(1, 1), 7);
    }

    private void tearMissing() {
        says(34, "A SHEET is missing: 1. BAD; NOTHING.");
        LeastRights x = people(3);
        for (int s : new int[] {LOW, -1, 4, 5, HIGH}) is("tear(" + s + ")", x.tear(s), BAD);
        is("no finding by that", x.finding(), 0);
        for (int s = 0; s < 4; s++) finds("tear(" + s + "), missing at first", x, x.tear(s), NOTHING);
        for (int s = 0; s < 4; s++) x.sheet(s, 3 * s);
        x.save(3);
        is("one of no ints", x.tear(0), 1);
        finds("torn already", x, x.tear(0), NOTHING);
        is("the last", x.tear(3), 1);
        finds("load() from it", x, x.load(3, 0, 0), NOTHING);
        is("another one is there still", x.load(1, 2, 0), 1);
        is("there again", x.sheet(3, 9), 9);
        x.change(0, 1, 1);
        x.load(3, 0, 0);
        is("with nothing of before", x.told(0, 1), 0);
    }

    /** Sheet 0 has 1, 2, 4, 8, 16; sheet 1 three times 0; sheet 2 no ints; sheet 3 is missing. */
    private static LeastRights sheets() {
        LeastRights x = people(1, 2, 4, 8, 16, 0);
        x.sheet(0, 5);
        x.sheet(1, 3);
        x.sheet(2, 0);
        x.save(0);
        return x;
    }

    private void has(String what, LeastRights x, int s, int... ints) {
        for (int i = 0; i < ints.length; i++) {
            x.load(s, i, 5);
            is(what + ", place " + i, x.told(5, 1), ints[i]);
        }
        is(what + ", no more places", x.load(s, ints.length, 5), FINDING);
    }

    private void copyArguments() {
        says(35, "BAD; SIZE: n below 0; NOTHING: either; BEYOND.");
        LeastRights x = sheets();
        for (int s : new int[] {LOW, -1, 4, 5, HIGH}) {
            is("from sheet " + s, x.copy(s, 0, 1, 0, 1), BAD);
            is("to sheet " + s, x.copy(0, 0, s, 0, 1), BAD);
            is("from and to sheet " + s, x.copy(s, 0, s, 0, 1), BAD);
        }
        is("no finding by that", x.finding(), 0);
        is("from the first sheet", x.copy(0, 4, 1, 2, 1), 1);
        has("sheet 1", x, 1, 0, 0, 16);
        x.sheet(3, 1);
        is("to the last sheet", x.copy(1, 2, 3, 0, 1), 1);
        has("sheet 3", x, 3, 16);
        is("from the last sheet", x.copy(3, 0, 0, 0, 1), 1);
        has("sheet 0", x, 0, 16, 2, 4, 8, 16);
    }

    private void copySize() {
        says(35, "SIZE: n below 0");
        LeastRights x = sheets();
        for (int n : new int[] {-1, -2, LOW, LOW + 1}) finds("n " + n, x, x.copy(0, 0, 1, 0, n), SIZE);
        is("findings(4)", x.findings(4), 4);
        finds("n -1 at places from which it would fit", x, x.copy(0, 1, 1, 1, -1), SIZE);
        is("n 0", x.copy(0, 0, 1, 0, 0), 1);
        has("sheet 1", x, 1, 0, 0, 0);
        has("sheet 0", x, 0, 1, 2, 4, 8, 16);
    }

    private void copyNothing() {
        says(35, "NOTHING: either");
        LeastRights x = sheets();
        finds("from", x, x.copy(3, 0, 0, 0, 1), NOTHING);
        finds("to", x, x.copy(0, 0, 3, 0, 1), NOTHING);
        finds("both", x, x.copy(3, 0, 3, 0, 1), NOTHING);
        finds("no ints from", x, x.copy(3, 0, 0, 0, 0), NOTHING);
        finds("no ints to", x, x.copy(0, 0, 3, 0, 0), NOTHING);
        is("findings(1)", x.findings(1), 5);
        is("a sheet of no ints is not missing", x.copy(2, 0, 0, 0, 0), 1);
        has("sheet 0", x, 0, 1, 2, 4, 8, 16);
    }

    private void copyPlaces() {
        says(35, "n ints of a SHEET, from one on, come to those of another one (perhaps itself) from one on");
        LeastRights x = sheets();
        finds("the first place behind the end, from", x, x.copy(0, 5, 1, 0, 1), BEYOND);
        finds("the first place behind the end, to", x, x.copy(0, 0, 1, 3, 1), BEYOND);
        finds("the first place before the start, from", x, x.copy(0, -1, 1, 0, 1), BEYOND);
        finds("the first place before the start, to", x, x.copy(0, 0, 1, -1, 1), BEYOND);
        finds("the last of three is behind the end, from", x, x.copy(0, 3, 1, 0, 3), BEYOND);
        finds("the last of three is behind the end, to", x, x.copy(0, 0, 1, 1, 3), BEYOND);
        finds("one more than there are, from", x, x.copy(1, 0, 0, 0, 4), BEYOND);
        finds("one more than there are, to", x, x.copy(0, 0, 1, 0, 4), BEYOND);
        finds("one from a sheet of no ints", x, x.copy(2, 0, 0, 0, 1), BEYOND);
        finds("one to a sheet of no ints", x, x.copy(0, 0, 2, 0, 1), BEYOND);
        is("findings(2)", x.findings(2), 10);
        has("nothing has come", x, 1, 0, 0, 0);
        is("the last three places, to all", x.copy(0, 2, 1, 0, 3), 1);
        has("all", x, 1, 4, 8, 16);
        is("all, to the last three places", x.copy(1, 0, 0, 2, 3), 1);
        is("the last place", x.copy(0, 4, 1, 2, 1), 1);
        is("the first place", x.copy(0, 0, 1, 0, 1), 1);
        has("both", x, 1, 1, 8, 16);
    }

    private void copyNone() {
        says(35, "BEYOND (a place that there is not)");
        LeastRights x = sheets();
        is("none, at the ends", x.copy(0, 5, 1, 3, 0), 1);
        is("none, of sheets of no ints", x.copy(2, 0, 2, 0, 0), 1);
        finds("none, behind the end of one", x, x.copy(0, 6, 1, 0, 0), BEYOND);
        finds("none, behind the end of the other", x, x.copy(0, 0, 1, 4, 0), BEYOND);
        finds("none, before the start of one", x, x.copy(0, -1, 1, 0, 0), BEYOND);
        finds("none, before the start of the other", x, x.copy(0, 0, 1, -1, 0), BEYOND);
        has("sheet 1", x, 1, 0, 0, 0);
    }

    private void copyWrapsNot() {
        says(35, "BEYOND (a place that there is not)");
        LeastRights x = sheets();
        int[][] places = {{HIGH, 0, 1}, {0, HIGH, 1}, {LOW, 0, 1}, {0, LOW, 1}, {0, 0, HIGH}, {1, 0, HIGH},
            {0, 1, HIGH}, {HIGH, HIGH, HIGH}, {HIGH - 1, 0, 2}, {0, HIGH - 1, 2}, {LOW, LOW, HIGH}, {-1, -1, 2}};
        for (int[] at : places) {
            String call = "copy(0, " + at[0] + ", 1, " + at[1] + ", " + at[2] + ")";
            finds(call, x, x.copy(0, at[0], 1, at[1], at[2]), BEYOND);
            finds(call + " in itself", x, x.copy(0, at[0], 0, at[1], at[2]), BEYOND);
        }
        has("sheet 0", x, 0, 1, 2, 4, 8, 16);
        has("sheet 1", x, 1, 0, 0, 0);
    }

    private void copyItself() {
        says(35, "(perhaps itself) from one on, as if taken ahead: 1");
        LeastRights onward = sheets();
        is("onward", onward.copy(0, 0, 0, 1, 4), 1);
        has("onward", onward, 0, 1, 1, 2, 4, 8);
        LeastRights back = sheets();
        is("back", back.copy(0, 1, 0, 0, 4), 1);
        has("back", back, 0, 2, 4, 8, 16, 16);
        LeastRights same = sheets();
        is("to the same place", same.copy(0, 0, 0, 0, 5), 1);
        has("to the same place", same, 0, 1, 2, 4, 8, 16);
        LeastRights last = sheets();
        is("the first to the last", last.copy(0, 0, 0, 4, 1), 1);
        has("the first to the last", last, 0, 1, 2, 4, 8, 1);
    }

    private void copyFull() {
        says(35, "n ints of a SHEET, from one on, come to those of another one");
        LeastRights x = new LeastRights();
        for (int p = 0; p < 10; p++) x.person(0, 1 << p);
        for (int s = 0; s < 4; s++) x.sheet(s, 10);
        x.save(1);
        is("all ten", x.copy(1, 0, 2, 0, 10), 1);
        finds("eleven", x, x.copy(1, 0, 2, 0, 11), BEYOND);
        finds("ten from the second on", x, x.copy(1, 1, 2, 0, 10), BEYOND);
        finds("ten to the second on", x, x.copy(1, 0, 2, 1, 10), BEYOND);
        for (int i = 0; i < 10; i++) {
            x.load(2, i, 0);
            is("place " + i, x.told(0, 1), 1 << i);
            x.load(0, i, 0);
            is("place " + i + " of the sheet before", x.told(0, 1), 0);
            x.load(3, i, 0);
            is("place " + i + " of the sheet behind", x.told(0, 1), 0);
        }
    }
}
