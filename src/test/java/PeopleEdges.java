/** Edges of promises 1 to 13: people, uses, kinds, what is struck and asked for. */
final class PeopleEdges extends Edges {
    PeopleEdges(Due due) {
        super(due);
    }

    @Override
    void test() {
        newObject();
        newObjectIsAlone();
        firstSpan();
        firstSeason();
        firstGrace();
        tenPeople();
        setsOfMarks();
        setsOfRights();
        changeWhat();
        changeBits();
        changeGives();
        toldWhat();
        toldNothingAndAll();
        standbySets();
        ruleSpan();
        ruleSeason();
        ruleGrace();
        laterEnds();
        laterWrapsNot();
        useDays();
        useOfWhat();
        useFull();
        useNotHad();
        kindArguments();
        kindUsed();
        kindSeldomOnce();
        kindSeldomAgain();
        kindSeldomShort();
        kindSeldomLong();
        kindSeldomNotUsed();
        kindStandby();
        usesKinds();
        usesUnlike();
        usesMany();
        strikeNothingAndAll();
        strikeOnTheDay();
        askWithinGrace();
        askLeastAndMostGrace();
        askStruckNoMore();
        askArguments();
        asksWhat();
        asksToTheLastCall();
    }

    private void newObject() {
        says(1, "No PEOPLE; DAY 0; no PLAN, no SHEETS.");
        LeastRights x = new LeastRights();
        for (int what = 0; what <= 5; what++) is("count(" + what + ")", x.count(what), 0);
        for (int what = 0; what <= 4; what++) is("told(0, " + what + ")", x.told(0, what), BAD);
        is("used(0, 0)", x.used(0, 0), BAD);
        is("stopped(1000)", x.stopped(1000), STATE);
        is("stop(1000, 0)", x.stop(1000, 0), STATE);
        is("apply()", x.apply(), STATE);
        is("breach()", x.breach(), 0);
        is("candidates()", x.candidates(), 0);
        is("tries()", x.tries(), 0);
        is("role(0)", x.role(0), NONE);
        is("badRole()", x.badRole(), NONE);
        is("asked()", x.asked(), 0);
        for (int what = 0; what <= 2; what++) is("asks(" + what + ")", x.asks(what), 0);
        is("finding()", x.finding(), 0);
        for (int f = 1; f <= 4; f++) is("findings(" + f + ")", x.findings(f), 0);
        for (int s = 0; s <= 3; s++) finds("save(" + s + ")", x, x.save(s), NOTHING);
        is("standby(0)", x.standby(0), 0);
    }

    private void newObjectIsAlone() {
        says(1, "No PEOPLE; DAY 0; no PLAN, no SHEETS.");
        LeastRights other = keepers(7);
        other.use(0, 0, 0);
        other.ban(0, 1, true);
        other.rule(1, 1, 1);
        other.later(9);
        other.plan(false);
        other.sheet(0, 2);
        other.roles(9);
        other.tear(1);
        LeastRights x = new LeastRights();
        for (int what = 0; what <= 5; what++) is("count(" + what + ")", x.count(what), 0);
        is("stopped(1)", x.stopped(1), STATE);
        is("finding()", x.finding(), 0);
        is("role(0)", x.role(0), NONE);
        is("standby(0)", x.standby(0), 0);
        is("tear(0)", x.tear(0), FINDING);
    }

    private void firstSpan() {
        says(1, "THE SPAN is n DAYS (1 .. 999; 30 at first)");
        is("used 29 days before", kindAfter(new LeastRights(), 29), USED);
        is("used 30 days before", kindAfter(new LeastRights(), 30), HOLDING);
    }

    private void firstSeason() {
        says(1, "THE SEASON m DAYS (1 .. 999; 100 at first)");
        is("100 days are due on the 30th day from now", kindAfter(new LeastRights(), 70), HOLDING);
        is("100 days are due on the 29th day from now", kindAfter(new LeastRights(), 71), SELDOM);
        is("100 days are due now", kindAfter(new LeastRights(), 100), SELDOM);
        is("100 days were due on the day before", kindAfter(new LeastRights(), 101), HOLDING);
    }

    private void firstGrace() {
        says(1, "THE GRACE, 0 .. 999; 60 at first");
        is("struck 60 days ago", askAfter(new LeastRights(), 60), 1);
        is("struck 61 days ago", askAfter(new LeastRights(), 61), 0);
    }

    /** The kind of a right that was used on day 0, so many days later. */
    private static int kindAfter(LeastRights x, int days) {
        x.person(0, 1);
        x.use(0, 0, 0);
        x.later(days);
        return x.kind(0, 0);
    }

    private static int kindAfter(int span, int season, int days) {
        LeastRights x = new LeastRights();
        x.rule(span, season, 0);
        return kindAfter(x, days);
    }

    /** What is answered to one who asks for a right so many days after it was struck on day 0. */
    private static int askAfter(LeastRights x, int days) {
        x.person(0, 1);
        x.strike(0);
        x.later(days);
        return x.ask(0, 0);
    }

    private static int askAfter(int grace, int days) {
        LeastRights x = new LeastRights();
        x.rule(1, 1, grace);
        return askAfter(x, days);
    }

    private void tenPeople() {
        says(2, "PEOPLE 0, 1, .. (10 at most)");
        LeastRights x = new LeastRights();
        for (int p = 0; p < 10; p++) {
            is("told() of " + p + " before it came", x.told(p, 0), BAD);
            is("person " + p, x.person(p, 2 * p), p);
        }
        is("an eleventh", x.person(0, 0), FULL);
        is("an eleventh, again", x.person(ALL_MARKS, ALL_RIGHTS), FULL);
        is("count(0)", x.count(0), 10);
        for (int p = 0; p < 10; p++) {
            is("marks of " + p, x.told(p, 0), p);
            is("rights of " + p, x.told(p, 1), 2 * p);
        }
        is("person 10", x.told(10, 0), BAD);
    }

    private void setsOfMarks() {
        says(2, "MARKS (a set of 0 .. 7)");
        LeastRights x = new LeastRights();
        for (int bits : new int[] {LOW, -256, -1, 256, 257, 511, 512, HIGH}) {
            is("person(" + bits + ", 0)", x.person(bits, 0), BAD);
        }
        is("count(0)", x.count(0), 0);
        is("no marks", x.person(0, 0), 0);
        is("all marks", x.person(ALL_MARKS, 0), 1);
        is("the last mark", x.person(128, 0), 2);
        is("marks of 0", x.told(0, 0), 0);
        is("marks of 1", x.told(1, 0), ALL_MARKS);
        is("marks of 2", x.told(2, 0), 128);
    }

    private void setsOfRights() {
        says(2, "RIGHTS (a set of 0 .. 11)");
        LeastRights x = new LeastRights();
        for (int bits : new int[] {LOW, -4096, -1, 4096, 4097, 8191, 8192, HIGH}) {
            is("person(0, " + bits + ")", x.person(0, bits), BAD);
        }
        is("count(0)", x.count(0), 0);
        is("no rights", x.person(0, 0), 0);
        is("all rights", x.person(0, ALL_RIGHTS), 1);
        is("the last right", x.person(0, 2048), 2);
        is("rights of 0", x.told(0, 1), 0);
        is("rights of 1", x.told(1, 1), ALL_RIGHTS);
        is("rights of 2", x.told(2, 1), 2048);
    }

    private void changeWhat() {
        says(3, "A PERSON has other MARKS (0), RIGHTS (1; what is given so is STRUCK no more): what it had. BAD.");
        LeastRights x = new LeastRights();
        is("nobody is there", x.change(0, 1, 0), BAD);
        x.person(5, 6);
        x.person(7, 8);
        for (int what : new int[] {LOW, -1, 2, 3, HIGH}) is("what " + what, x.change(0, what, 1), BAD);
        for (int p : new int[] {LOW, -1, 2, 10, HIGH}) {
            is("marks of person " + p, x.change(p, 0, 1), BAD);
            is("rights of person " + p, x.change(p, 1, 1), BAD);
        }
        is("marks of the first", x.change(0, 0, 1), 5);
        is("marks of the last", x.change(1, 0, 2), 7);
        is("rights of the first", x.change(0, 1, 3), 6);
        is("rights of the last", x.change(1, 1, 4), 8);
        is("told(0, 0)", x.told(0, 0), 1);
        is("told(1, 0)", x.told(1, 0), 2);
        is("told(0, 1)", x.told(0, 1), 3);
        is("told(1, 1)", x.told(1, 1), 4);
        LeastRights full = ten(1, 2);
        is("person 9 of ten", full.change(9, 1, 3), 2);
        is("person 10 of ten", full.change(10, 1, 3), BAD);
    }

    private void changeBits() {
        says(3, "A PERSON has other MARKS (0), RIGHTS (1; what is given so is STRUCK no more): what it had. BAD.");
        LeastRights x = people(6);
        for (int bits : new int[] {LOW, -1, 256, 4095, HIGH}) is("marks " + bits, x.change(0, 0, bits), BAD);
        for (int bits : new int[] {LOW, -1, 4096, HIGH}) is("rights " + bits, x.change(0, 1, bits), BAD);
        is("marks are as before", x.told(0, 0), 0);
        is("rights are as before", x.told(0, 1), 6);
        is("all marks", x.change(0, 0, ALL_MARKS), 0);
        is("no marks", x.change(0, 0, 0), ALL_MARKS);
        is("rights 256, which are no marks", x.change(0, 1, 256), 6);
        is("all rights", x.change(0, 1, ALL_RIGHTS), 256);
        is("the same rights", x.change(0, 1, ALL_RIGHTS), ALL_RIGHTS);
        is("no rights", x.change(0, 1, 0), ALL_RIGHTS);
        is("told(0, 1)", x.told(0, 1), 0);
        is("what goes by change() is not struck", x.told(0, 3), 0);
    }

    private void changeGives() {
        says(3, "what is given so is STRUCK no more");
        LeastRights x = people(ALL_RIGHTS, ALL_RIGHTS);
        x.strike(0);
        x.strike(1);
        x.change(0, 1, 0);
        is("nothing given", x.told(0, 3), ALL_RIGHTS);
        x.change(0, 0, ALL_MARKS);
        is("marks given", x.told(0, 3), ALL_RIGHTS);
        x.change(0, 1, 2049);
        is("the first and the last given", x.told(0, 3), ALL_RIGHTS - 2049);
        x.change(0, 1, 1);
        is("the last taken again", x.told(0, 3), ALL_RIGHTS - 2049);
        is("asked for what was given and taken", x.ask(0, 11), 0);
        x.change(0, 1, ALL_RIGHTS);
        is("all given", x.told(0, 3), 0);
        is("those of the other one", x.told(1, 3), ALL_RIGHTS);
    }

    private void toldWhat() {
        says(4, "Of a PERSON: 0 MARKS, 1 RIGHTS, 2 KEPT, 3 RIGHTS that are STRUCK, 4 how many USES. BAD.");
        LeastRights x = new LeastRights();
        x.person(9, 7);
        x.person(3, 24);
        x.use(1, 3, 0);
        x.strike(0);
        for (int what : new int[] {LOW, -1, 5, 6, HIGH}) is("what " + what, x.told(0, what), BAD);
        for (int p : new int[] {LOW, -1, 2, 10, HIGH}) {
            for (int what = 0; what <= 4; what++) is("person " + p + ", what " + what, x.told(p, what), BAD);
        }
        int[][] want = {{9, 0, 0, 7, 0}, {3, 24, 8, 0, 1}};
        for (int p = 0; p < 2; p++) {
            for (int what = 0; what <= 4; what++) is("told(" + p + ", " + what + ")", x.told(p, what), want[p][what]);
        }
        LeastRights full = ten(4, 2);
        is("person 9 of ten", full.told(9, 0), 4);
        is("person 10 of ten", full.told(10, 0), BAD);
    }

    private void toldNothingAndAll() {
        says(4, "KEPT of a PERSON: RIGHTS that it has and that are USED, SELDOM or STANDBY.");
        LeastRights x = people(0, ALL_RIGHTS, 1);
        is("kept of no rights", x.told(0, 2), 0);
        is("kept with no use", x.told(1, 2), 0);
        x.standby(ALL_RIGHTS);
        is("standby ones that it has not", x.told(0, 2), 0);
        is("all are standby ones", x.told(1, 2), ALL_RIGHTS);
        x.standby(0);
        for (int r = 0; r < 12; r++) x.use(1, r, 0);
        is("all are used", x.told(1, 2), ALL_RIGHTS);
        is("used by another one", x.told(2, 2), 0);
        x.later(100);
        is("all are seldom", x.told(1, 2), ALL_RIGHTS);
        x.later(1);
        is("none is used any more", x.told(1, 2), 0);
        x.use(1, 0, 0);
        x.change(1, 1, ALL_RIGHTS - 1);
        is("used, but it has it no more", x.told(1, 2), 0);
        is("uses of what it has no more", x.told(1, 4), 13);
        is("no uses", x.told(2, 4), 0);
        is("uses of one with all that there may be", fullLog().told(0, 4), 400);
    }

    private void standbySets() {
        says(5, "The STANDBY RIGHTS are these: what they were. BAD.");
        LeastRights x = people(ALL_RIGHTS);
        is("all", x.standby(ALL_RIGHTS), 0);
        for (int bits : new int[] {LOW, -1, 4096, 4097, HIGH}) is("standby(" + bits + ")", x.standby(bits), BAD);
        is("kept", x.told(0, 2), ALL_RIGHTS);
        is("the last alone", x.standby(2048), ALL_RIGHTS);
        is("kept, of the last", x.told(0, 2), 2048);
        is("none", x.standby(0), 2048);
        is("none again", x.standby(0), 0);
        is("kept of none", x.told(0, 2), 0);
    }

    private void ruleSpan() {
        says(6, "THE SPAN is n DAYS (1 .. 999; 30 at first)");
        LeastRights x = new LeastRights();
        for (int n : new int[] {LOW, -1, 0, 1000, HIGH}) is("rule(" + n + ", 1, 0)", x.rule(n, 1, 0), BAD);
        is("rule(1, 1, 0)", x.rule(1, 1, 0), 1);
        is("rule(999, 1, 0)", x.rule(999, 1, 0), 1);
        is("span 1, used now", kindAfter(1, 999, 0), USED);
        is("span 1, used a day before", kindAfter(1, 999, 1), HOLDING);
        is("span 999, used 998 days before", kindAfter(999, 999, 998), USED);
        is("span 999, used 999 days before", kindAfter(999, 999, 999), SELDOM);
    }

    private void ruleSeason() {
        says(6, "THE SEASON m DAYS (1 .. 999; 100 at first)");
        LeastRights x = new LeastRights();
        for (int m : new int[] {LOW, -1, 0, 1000, HIGH}) is("rule(1, " + m + ", 0)", x.rule(1, m, 0), BAD);
        is("rule(1, 1, 0)", x.rule(1, 1, 0), 1);
        is("rule(1, 999, 0)", x.rule(1, 999, 0), 1);
        is("season 1", kindAfter(1, 1, 1), SELDOM);
        is("season 1, later", kindAfter(1, 1, 997), SELDOM);
        is("season 999, at 998", kindAfter(1, 999, 998), HOLDING);
        is("season 999, at 999", kindAfter(1, 999, 999), SELDOM);
    }

    private void ruleGrace() {
        says(6, "THE GRACE, 0 .. 999; 60 at first");
        LeastRights x = new LeastRights();
        for (int g : new int[] {LOW, -1, 1000, HIGH}) is("rule(1, 1, " + g + ")", x.rule(1, 1, g), BAD);
        is("rule(1, 1, 0)", x.rule(1, 1, 0), 1);
        is("rule(1, 1, 999)", x.rule(1, 1, 999), 1);
        x.person(0, 1);
        x.strike(0);
        x.later(61);
        is("a rule later than the strike", x.rule(1, 1, 60), 1);
        is("asked under grace 60", x.ask(0, 0), 0);
        is("another rule", x.rule(1, 1, 61), 1);
        is("asked under grace 61", x.ask(0, 0), 1);
    }

    private void laterEnds() {
        says(7, "The PRESENT DAY is n DAYS later: it. BAD: n below 0, beyond 999.");
        LeastRights x = new LeastRights();
        is("later(-1)", x.later(-1), BAD);
        is("later(0)", x.later(0), 0);
        is("later(1000)", x.later(1000), BAD);
        is("later(999)", x.later(999), 999);
        is("one more", x.later(1), BAD);
        is("none more", x.later(0), 999);
        is("back", x.later(-1), BAD);
        is("count(1)", x.count(1), 999);
        LeastRights y = new LeastRights();
        y.later(998);
        is("two from 998", y.later(2), BAD);
        is("one from 998", y.later(1), 999);
        LeastRights z = new LeastRights();
        z.later(1);
        is("999 from 1", z.later(999), BAD);
        is("998 from 1", z.later(998), 999);
    }

    private void laterWrapsNot() {
        says(7, "BAD: n below 0, beyond 999.");
        LeastRights x = new LeastRights();
        for (int day = 0; day <= 999; day += 333) {
            for (int n : new int[] {LOW, LOW + 1, LOW + 999, HIGH, HIGH - 1, HIGH - 998, -1000, -day - 1}) {
                is("later(" + n + ") on day " + day, x.later(n), BAD);
            }
            is("count(1)", x.count(1), day);
            x.later(333);
        }
    }

    private void useDays() {
        says(8, "BAD: also n not 0 .. the PRESENT DAY");
        LeastRights x = people(1);
        is("day 0, now", x.use(0, 0, 0), 1);
        is("day 0, a day before", x.use(0, 0, 1), BAD);
        is("day 0, to come", x.use(0, 0, -1), BAD);
        x.later(999);
        for (int n : new int[] {LOW, -1, 1000, HIGH}) is("day 999, n " + n, x.use(0, 0, n), BAD);
        is("day 999, now", x.use(0, 0, 0), 2);
        is("day 999, on the first day", x.use(0, 0, 999), 3);
        is("its day", x.used(1, 2), 999);
        is("the first day", x.used(2, 2), 0);
        is("count(2)", x.count(2), 3);
    }

    private void useOfWhat() {
        says(8, "A PERSON used a RIGHT on the DAY that is n DAYS before the PRESENT one");
        LeastRights x = people(ALL_RIGHTS, ALL_RIGHTS);
        for (int r : new int[] {LOW, -1, 12, 13, 31, 32, HIGH}) is("right " + r, x.use(0, r, 0), BAD);
        for (int p : new int[] {LOW, -1, 2, 10, HIGH}) is("person " + p, x.use(p, 0, 0), BAD);
        is("count(2)", x.count(2), 0);
        is("the first right of the first", x.use(0, 0, 0), 1);
        is("the last right of the last", x.use(1, 11, 0), 2);
        is("used(1, 0)", x.used(1, 0), 1);
        is("used(1, 1)", x.used(1, 1), 11);
    }

    private void useFull() {
        says(8, "how many USES there are (the same may be told again)");
        LeastRights x = people(1);
        for (int u = 1; u <= 400; u++) is("use " + u, x.use(0, 0, 0), u);
        is("use 401", x.use(0, 0, 0), FULL);
        is("use 401, again", x.use(0, 0, 0), FULL);
        is("count(2)", x.count(2), 400);
        is("told(0, 4)", x.told(0, 4), 400);
        x.strike(0);
        x.change(0, 1, 0);
        is("uses stay", x.count(2), 400);
    }

    private void useNotHad() {
        says(8, "STATE: it has not that RIGHT.");
        LeastRights x = people(0, ALL_RIGHTS - 2048, 1);
        for (int r = 0; r < 12; r++) is("no rights, right " + r, x.use(0, r, 0), STATE);
        is("all but that", x.use(1, 11, 0), STATE);
        is("one of all but that", x.use(1, 10, 0), 1);
        x.strike(2);
        is("struck", x.use(2, 0, 0), STATE);
        x.ask(2, 0);
        is("back", x.use(2, 0, 0), 2);
        is("count(2)", x.count(2), 2);
    }

    private void kindArguments() {
        says(9, "The KIND of a HOLDING. BAD; STATE: the PERSON has not that RIGHT.");
        LeastRights x = people(0, ALL_RIGHTS);
        for (int r : new int[] {LOW, -1, 12, 13, 32, HIGH}) is("right " + r, x.kind(1, r), BAD);
        for (int p : new int[] {LOW, -1, 2, 10, HIGH}) is("person " + p, x.kind(p, 0), BAD);
        for (int r = 0; r < 12; r++) {
            is("of no rights, right " + r, x.kind(0, r), STATE);
            is("of all rights, right " + r, x.kind(1, r), HOLDING);
        }
        x.strike(1);
        is("struck", x.kind(1, 0), STATE);
    }

    private void kindUsed() {
        says(9, "the PERSON used it on the PRESENT DAY or less than n DAYS before");
        for (int span : new int[] {1, 2, 30, 998}) {
            is("span " + span + ", now", kindAfter(span, 999, 0), USED);
            is("span " + span + ", the last day", kindAfter(span, 999, span - 1), USED);
        }
        is("span 1, a day more", kindAfter(1, 999, 1), HOLDING);
        is("span 2, a day more", kindAfter(2, 999, 2), HOLDING);
        is("span 30, a day more", kindAfter(30, 999, 30), HOLDING);
    }

    private void kindSeldomOnce() {
        says(9, "to one of the PRESENT DAY and the n - 1 DAYS that follow it, m DAYS");
        is("due on the 5th day from now, of a span of 5", kindAfter(5, 20, 15), HOLDING);
        is("due on the 4th", kindAfter(5, 20, 16), SELDOM);
        is("due now", kindAfter(5, 20, 20), SELDOM);
        is("due a day ago", kindAfter(5, 20, 21), HOLDING);
        is("span 1, due tomorrow", kindAfter(1, 20, 19), HOLDING);
        is("span 1, due now", kindAfter(1, 20, 20), SELDOM);
        is("span 1, due a day ago", kindAfter(1, 20, 21), HOLDING);
    }

    private void kindSeldomAgain() {
        says(9, "m DAYS or a whole number of times m");
        for (int times = 2; times <= 6; times++) {
            int day = times * 20;
            is(times + " times, on the 5th day", kindAfter(5, 20, day - 5), HOLDING);
            is(times + " times, on the 4th day", kindAfter(5, 20, day - 4), SELDOM);
            is(times + " times, now", kindAfter(5, 20, day), SELDOM);
            is(times + " times, a day ago", kindAfter(5, 20, day + 1), HOLDING);
        }
        is("half a season", kindAfter(1, 20, 30), HOLDING);
        is("111 times 9 days, on the last day of all", kindAfter(1, 9, 999), SELDOM);
        is("not a whole number", kindAfter(1, 10, 999), HOLDING);
        is("ten times 100, behind the last day of all", kindAfter(2, 100, 999), SELDOM);
    }

    private void kindSeldomShort() {
        says(9, "not used within those, but on a DAY before them");
        for (int day = 5; day <= 30; day++) {
            is("a season as long as the span, day " + day, kindAfter(5, 5, day), SELDOM);
        }
        for (int day = 5; day <= 30; day++) {
            int want = day % 6 == 1 ? HOLDING : SELDOM;
            is("a season a day longer than the span, day " + day, kindAfter(5, 6, day), want);
        }
        is("a season shorter than the span, within it", kindAfter(5, 2, 4), USED);
        is("a season shorter than the span, before it", kindAfter(5, 2, 5), SELDOM);
    }

    private void kindSeldomLong() {
        says(9, "from which it is, to one of the PRESENT DAY and the n - 1 DAYS that follow it");
        is("span 999, season 999, day 998", kindAfter(999, 999, 998), USED);
        is("span 999, season 999, day 999", kindAfter(999, 999, 999), SELDOM);
        is("span 999, season 1, day 999", kindAfter(999, 1, 999), SELDOM);
        is("span 998, season 999, day 998", kindAfter(998, 999, 998), SELDOM);
        is("span 499, season 999, day 500", kindAfter(499, 999, 500), HOLDING);
        is("span 500, season 999, day 500", kindAfter(500, 999, 500), SELDOM);
        LeastRights x = people(1);
        x.rule(1, 20, 0);
        x.later(7);
        x.use(0, 0, 0);
        x.later(13);
        is("a season from day 0, not from the use", x.kind(0, 0), HOLDING);
        x.later(7);
        is("a season from the use", x.kind(0, 0), SELDOM);
    }

    private void kindSeldomNotUsed() {
        says(9, "2 SELDOM (a USED, too: not used within those");
        LeastRights x = people(3, 3);
        x.rule(5, 20, 0);
        x.use(0, 0, 0);
        x.later(20);
        is("seldom", x.kind(0, 0), SELDOM);
        is("another right of the same", x.kind(0, 1), HOLDING);
        is("the same right of another", x.kind(1, 0), HOLDING);
        x.use(0, 0, 5);
        is("used before the span, too", x.kind(0, 0), SELDOM);
        x.use(0, 0, 4);
        is("used within the span, too", x.kind(0, 0), USED);
        x.later(1);
        is("neither of the three uses", x.kind(0, 0), HOLDING);
    }

    private void kindStandby() {
        says(9, "3 STANDBY (a HOLDING: neither of these, and the RIGHT is a STANDBY one)");
        LeastRights x = people(2049);
        x.rule(5, 20, 0);
        x.standby(2049);
        is("the first, not used", x.kind(0, 0), STANDBY);
        is("the last, not used", x.kind(0, 11), STANDBY);
        x.use(0, 11, 0);
        is("used", x.kind(0, 11), USED);
        x.later(15);
        is("used, but neither used nor seldom now", x.kind(0, 11), STANDBY);
        x.later(1);
        is("seldom", x.kind(0, 11), SELDOM);
        x.later(5);
        is("seldom no more", x.kind(0, 11), STANDBY);
        x.standby(1);
        is("standby no more", x.kind(0, 11), HOLDING);
        is("standby and not had", x.standby(2050), 1);
        is("kind of it", x.kind(0, 1), STATE);
    }

    /** Rights 0 to 3 of person 0: nothing, used, seldom, standby; right 4 used and standby. */
    private static LeastRights kinds() {
        LeastRights x = people(31);
        x.rule(5, 20, 0);
        x.standby(24);
        x.use(0, 2, 0);
        x.later(20);
        x.use(0, 1, 0);
        x.use(0, 4, 0);
        return x;
    }

    private void usesKinds() {
        says(10, "a HOLDING that IS of a KIND (a SELDOM one is USED, too, here; each is a HOLDING)");
        int no = FINDING;
        int[][] want = {{0, no, no, no}, {1, 1, no, no}, {1, 1, 1, no}, {0, no, no, 0}, {1, 1, no, no}};
        LeastRights x = kinds();
        for (int r = 0; r < 5; r++) {
            for (int kind = 0; kind < 4; kind++) {
                is("uses(0, " + r + ", " + kind + ")", x.uses(0, r, kind), want[r][kind]);
            }
        }
        for (int kind : new int[] {LOW, -1, 4, 5, HIGH}) is("kind " + kind, x.uses(0, 1, kind), BAD);
        for (int r : new int[] {LOW, -1, 12, HIGH}) is("right " + r, x.uses(0, r, 0), BAD);
        for (int p : new int[] {LOW, -1, 1, 10, HIGH}) is("person " + p, x.uses(p, 1, 0), BAD);
        for (int kind = 0; kind < 4; kind++) is("not had, kind " + kind, x.uses(0, 5, kind), STATE);
    }

    private void usesUnlike() {
        says(10, "BAD: also the KIND; STATE; UNLIKE.");
        LeastRights x = kinds();
        is("as told", x.uses(0, 1, 1), 1);
        is("finding() before", x.finding(), 0);
        finds("neither used", x, x.uses(0, 0, 1), UNLIKE);
        finds("nor seldom", x, x.uses(0, 0, 2), UNLIKE);
        finds("nor standby", x, x.uses(0, 0, 3), UNLIKE);
        is("findings(3)", x.findings(3), 3);
        is("a bad kind", x.uses(0, 0, 4), BAD);
        is("not had", x.uses(0, 5, 1), STATE);
        is("findings(3) after others", x.findings(3), 3);
    }

    private void usesMany() {
        says(10, "How many USES there are of a HOLDING");
        is("all that there may be", fullLog().uses(0, 0, 1), 400);
        LeastRights x = people(3, 3);
        x.rule(1, 999, 60);
        x.use(0, 0, 0);
        x.use(0, 0, 0);
        x.use(0, 1, 0);
        x.use(1, 0, 0);
        x.later(3);
        x.use(0, 0, 1);
        is("those of before the span, too", x.uses(0, 0, 0), 3);
        x.strike(0);
        x.ask(0, 0);
        is("those of before it came back, too", x.uses(0, 0, 0), 3);
        is("none", x.uses(1, 1, 0), 0);
    }

    private void strikeNothingAndAll() {
        says(11, "A PERSON's RIGHTS are STRUCK: how many go. BAD.");
        LeastRights x = people(0, ALL_RIGHTS, ALL_RIGHTS, 2049);
        for (int p : new int[] {LOW, -1, 4, 10, HIGH}) is("person " + p, x.strike(p), BAD);
        is("no rights", x.strike(0), 0);
        is("all of them", x.strike(1), 12);
        is("told(1, 1)", x.told(1, 1), 0);
        is("told(1, 3)", x.told(1, 3), ALL_RIGHTS);
        is("all of them again", x.strike(1), 0);
        x.standby(ALL_RIGHTS);
        is("none of them", x.strike(2), 0);
        is("told(2, 1)", x.told(2, 1), ALL_RIGHTS);
        is("told(2, 3)", x.told(2, 3), 0);
        x.standby(1);
        is("the last of them", x.strike(3), 1);
        is("told(3, 1)", x.told(3, 1), 1);
        is("told(3, 3)", x.told(3, 3), 2048);
    }

    private void strikeOnTheDay() {
        says(11, "all that are not KEPT go, and are STRUCK on the PRESENT DAY");
        LeastRights x = people(7);
        x.rule(1, 999, 5);
        x.standby(4);
        x.later(3);
        is("two go", x.strike(0), 2);
        x.later(4);
        x.standby(0);
        is("one more goes", x.strike(0), 1);
        x.later(1);
        is("struck five days ago", x.ask(0, 0), 1);
        x.later(1);
        is("struck six days ago, though a strike was since", x.ask(0, 1), 0);
        is("struck again", x.strike(0), 1);
        x.later(3);
        is("struck five days ago, by the second", x.ask(0, 2), 1);
        x.later(2);
        is("struck five days ago, by the third", x.ask(0, 0), 1);
    }

    private void askWithinGrace() {
        says(12, "comes back, if it is STRUCK since g DAYS or less");
        for (int grace : new int[] {1, 2, 59, 60, 998}) {
            is("grace " + grace + ", the same day", askAfter(grace, 0), 1);
            is("grace " + grace + ", its last day", askAfter(grace, grace), 1);
            is("grace " + grace + ", a day more", askAfter(grace, grace + 1), 0);
        }
    }

    private void askLeastAndMostGrace() {
        says(12, "THE GRACE, 0 .. 999; 60 at first");
        is("grace 0, the same day", askAfter(0, 0), 1);
        is("grace 0, the next day", askAfter(0, 1), 0);
        is("grace 999, from the first day to the last", askAfter(999, 999), 1);
    }

    private void askStruckNoMore() {
        says(12, "A PERSON ASKS for a RIGHT: 1 it comes back, 2 it has it, 0 no. BAD.");
        LeastRights x = people(2049, 0);
        x.rule(1, 999, 5);
        is("has it", x.ask(0, 11), 2);
        is("never had it", x.ask(1, 11), 0);
        x.strike(0);
        is("another one's", x.ask(1, 11), 0);
        is("the last right comes back", x.ask(0, 11), 1);
        is("told(0, 1)", x.told(0, 1), 2048);
        is("told(0, 3)", x.told(0, 3), 1);
        is("has it again", x.ask(0, 11), 2);
        x.change(0, 1, 0);
        is("taken, and struck no more", x.ask(0, 11), 0);
        x.later(6);
        is("too late", x.ask(0, 0), 0);
        is("too late, and struck still", x.told(0, 3), 1);
        is("too late, and not had", x.told(0, 1), 0);
    }

    private void askArguments() {
        says(12, "A PERSON ASKS for a RIGHT: 1 it comes back, 2 it has it, 0 no. BAD.");
        LeastRights x = people(ALL_RIGHTS, ALL_RIGHTS);
        for (int r : new int[] {LOW, -1, 12, 13, 32, HIGH}) is("right " + r, x.ask(0, r), BAD);
        for (int p : new int[] {LOW, -1, 2, 10, HIGH}) is("person " + p, x.ask(p, 0), BAD);
        is("nobody is there", new LeastRights().ask(0, 0), BAD);
        is("the first right of the first", x.ask(0, 0), 2);
        is("the last right of the last", x.ask(1, 11), 2);
    }

    private void asksWhat() {
        says(13, "How often ask() answered 0 (0), 1 (1), 2 (2). BAD.");
        LeastRights x = people(1);
        for (int what : new int[] {LOW, -1, 3, 4, HIGH}) is("asks(" + what + ")", x.asks(what), BAD);
        x.ask(0, 5);
        is("asks(0)", x.asks(0), 1);
        is("asks(1) before", x.asks(1), 0);
        is("asks(2) before", x.asks(2), 0);
        x.ask(0, 0);
        is("asks(2)", x.asks(2), 1);
        x.strike(0);
        x.ask(0, 0);
        is("asks(1)", x.asks(1), 1);
        x.ask(0, 12);
        x.ask(0, -1);
        x.ask(1, 0);
        for (int what = 0; what <= 2; what++) is("asks(" + what + ") after bad ones", x.asks(what), 1);
    }

    private void asksToTheLastCall() {
        says(13, "An object is used for at most 512 calls after it has been made");
        LeastRights x = people(1);
        for (int call = 2; call < 512; call++) x.ask(0, 0);
        is("call 512, asks(2)", x.asks(2), 510);
    }
}
