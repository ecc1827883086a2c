/** Edges of promises 14 to 24: candidates and roles, rules on marks, banned pairs. */
final class RoleEdges extends Edges {
    RoleEdges(Due due) {
        super(due);
    }

    @Override
    void test() {
        candidatesNotEmpty();
        candidatesOfOneOrMore();
        rolesTries();
        rolesEnough();
        rolesMostTries();
        rolesNothingAndAll();
        rolesBeginAnew();
        rolesNoneBeyond();
        rolesFirstRow();
        rolesSpent();
        triesBefore();
        triesSpent();
        rolePlaces();
        roleOfLatest();
        rolesOfPeople();
        rolesOfNow();
        marksOfRights();
        marksOfNothingAndAll();
        marksOfFewest();
        marksOfWhatTheyHave();
        exceptionsArguments();
        exceptionsNothingAndAll();
        banRights();
        banAll();
        breachOfBoth();
        breachNothingAndAll();
        leastOfNone();
        leastFewest();
        leastKept();
        leastAll();
        badRoleFirst();
        badRoleNone();
    }

    /** Ten people who keep one right each, a right of their own. */
    private static LeastRights tenApart() {
        return keepers(1, 2, 4, 8, 16, 32, 64, 128, 256, 512);
    }

    private void candidatesNotEmpty() {
        says(14, "CANDIDATES are all sets (not empty)");
        is("nobody", new LeastRights().candidates(), 0);
        is("one without rights", keepers(0).candidates(), 0);
        is("ten without rights", ten(0, 0).candidates(), 0);
        is("ten who keep none", ten(0, ALL_RIGHTS).candidates(), 0);
        is("two with nothing in both", keepers(3, 12).candidates(), 2);
        is("ten with nothing in two", tenApart().candidates(), 10);
    }

    private void candidatesOfOneOrMore() {
        says(14, "what is in KEPT of all of some PEOPLE (one or more)");
        is("one", keepers(1).candidates(), 1);
        is("one with all", keepers(ALL_RIGHTS).candidates(), 1);
        is("two alike", keepers(5, 5).candidates(), 1);
        is("one within another", keepers(1, 3).candidates(), 2);
        is("two and what is in both", keepers(3, 6).candidates(), 3);
        is("three by pairs, and the one that is in all", keepers(11, 13, 14).candidates(), 7);
        int[] most = new int[10];
        for (int p = 0; p < 10; p++) most[p] = ALL_RIGHTS - (1 << p);
        is("as many as there may be", keepers(most).candidates(), 1023);
        LeastRights x = keepers(most);
        x.standby(0);
        is("kept no more", x.candidates(), 0);
        LeastRights y = keepers(1);
        is("one, to be changed", y.candidates(), 1);
        y.change(0, 1, 3);
        is("what was one before the change is none now", y.candidates(), 1);
    }

    private void rolesTries() {
        says(15, "n TRIES (1 .. 20000)");
        LeastRights x = keepers(3);
        for (int n : new int[] {LOW, -1, 0, 20001, 20002, HIGH}) is("roles(" + n + ")", x.roles(n), BAD);
        is("tries()", x.tries(), 0);
        is("roles(1)", x.roles(1), 1);
        is("roles(20000)", x.roles(20000), 1);
    }

    private void rolesEnough() {
        says(15, "THE ROLES, if n TRIES (1 .. 20000) are enough: how many. BAD; SPENT.");
        LeastRights x = tenApart();
        is("nine are not", x.roles(9), SPENT);
        is("ten are", x.roles(10), 10);
        is("eleven are", x.roles(11), 10);
        LeastRights y = keepers(3, 6, 7);
        for (int n = 1; n <= 3; n++) {
            is(n + " of four are not, though a row is found by the third", y.roles(n), SPENT);
            is("four are, whatever was left by a spent one", y.roles(4), 2);
            is("tries()", y.tries(), 4);
        }
        LeastRights z = keepers(1, 2);
        is("one is not", z.roles(1), SPENT);
        is("two are", z.roles(2), 2);
    }

    private void rolesMostTries() {
        says(15, "THE ROLES, if n TRIES (1 .. 20000) are enough: how many. BAD; SPENT.");
        LeastRights x = keepers(799, 849, 686, 730, 503, 396);
        is("19999 are not", x.roles(19999), SPENT);
        is("role(0)", x.role(0), NONE);
        is("all of 20000 are", x.roles(20000), 6);
        is("tries()", x.tries(), 20000);
        int[] row = {279, 522, 849, 166, 210, 396};
        for (int i = 0; i < row.length; i++) is("role(" + i + ")", x.role(i), row[i]);
        LeastRights y = keepers(422, 94, 235, 158, 54, 345);
        is("20001 would have been", y.roles(20000), SPENT);
        is("tries() of these", y.tries(), 20000);
        is("role(0) of these", y.role(0), NONE);
    }

    private void rolesNothingAndAll() {
        says(15, "It begins with no ROLES");
        for (LeastRights x : new LeastRights[] {new LeastRights(), keepers(0), ten(0, 0), ten(0, ALL_RIGHTS)}) {
            is("nothing kept, one try", x.roles(1), 0);
            is("nothing kept, no tries", x.tries(), 0);
            is("nothing kept, no role", x.role(0), NONE);
        }
        LeastRights all = ten(0, ALL_RIGHTS);
        all.standby(ALL_RIGHTS);
        is("all keep all", all.roles(1), 1);
        is("the one role", all.role(0), ALL_RIGHTS);
        is("one behind those who keep nothing", keepers(0, 0, 2048).roles(1), 1);
    }

    private void rolesBeginAnew() {
        says(15, "It begins with no ROLES");
        int[][] kept = {{1, 0, 0, 0}, {3, 6, 7, 0}, {4, 3, 6, 0}, {11, 13, 14, 15}, {1, 2, 4, 8},
            {0, 0, 0, 0}, {3, 5, 6, 7}};
        LeastRights x = keepers(0, 0, 0, 0);
        for (int[] sets : kept) {
            for (int p = 0; p < 4; p++) x.change(p, 1, sets[p]);
            LeastRights fresh = keepers(sets);
            is("roles()", x.roles(20000), fresh.roles(20000));
            is("tries()", x.tries(), fresh.tries());
            for (int i = 0; i < 5; i++) is("role(" + i + ")", x.role(i), fresh.role(i));
        }
        is("the last roles", x.roles(20000), 3);
    }

    private void rolesNoneBeyond() {
        says(15, "KEPT of each PERSON is all of some of them together, with none beyond");
        LeastRights x = keepers(1, 3);
        is("a role is not for one who keeps less", x.roles(20000), 2);
        is("role(0)", x.role(0), 1);
        is("role(1)", x.role(1), 3);
        LeastRights y = keepers(3, 1);
        is("the other way round", y.roles(20000), 2);
        is("its role(0)", y.role(0), 1);
        is("its role(1)", y.role(1), 3);
    }

    private void rolesFirstRow() {
        says(15, "The first row of ROLES with the fewest is told.");
        LeastRights x = keepers(4, 3, 6);
        is("roles", x.roles(20000), 3);
        is("tries", x.tries(), 4);
        int[] row = {4, 3, 2};
        for (int i = 0; i < 3; i++) is("role(" + i + ")", x.role(i), row[i]);
        LeastRights y = keepers(3, 6, 7);
        is("roles by the last try", y.roles(20000), 2);
        is("its tries", y.tries(), 4);
        is("its role(0)", y.role(0), 3);
        is("its role(1)", y.role(1), 6);
    }

    private void rolesSpent() {
        says(15, "(None are told then.)");
        LeastRights x = keepers(3, 12);
        x.ban(0, 1, true);
        is("enough", x.roles(2), 2);
        is("badRole()", x.badRole(), 0);
        is("too few", x.roles(1), SPENT);
        is("role(0)", x.role(0), NONE);
        is("role(1)", x.role(1), NONE);
        is("rolesOf(0)", x.rolesOf(0), 0);
        is("badRole() then", x.badRole(), NONE);
        is("no finding", x.finding(), 0);
        is("enough again", x.roles(2), 2);
        is("tries() again", x.tries(), 2);
        is("role(0) again", x.role(0), 3);
    }

    private void triesBefore() {
        says(16, "TRIES of the latest roles() that was not BAD (n, if it was SPENT); 0 before.");
        LeastRights x = tenApart();
        is("before", x.tries(), 0);
        x.roles(0);
        x.roles(20001);
        is("before, and two bad ones", x.tries(), 0);
        x.roles(20000);
        is("ten", x.tries(), 10);
        x.roles(0);
        x.roles(20001);
        is("ten, and two bad ones", x.tries(), 10);
        x.change(0, 1, 0);
        is("of the latest, not of now", x.tries(), 10);
        x.roles(20000);
        is("nine", x.tries(), 9);
        x.standby(0);
        x.roles(1);
        is("none", x.tries(), 0);
    }

    private void triesSpent() {
        says(16, "(n, if it was SPENT)");
        LeastRights x = tenApart();
        for (int n = 1; n < 10; n++) {
            is("roles(" + n + ")", x.roles(n), SPENT);
            is("tries() after " + n, x.tries(), n);
        }
        x.roles(10);
        is("just enough", x.tries(), 10);
    }

    private void rolePlaces() {
        says(17, "ROLE i (bits) of the latest roles(); NONE: none such.");
        LeastRights x = tenApart();
        for (int i : new int[] {LOW, -1, 0, HIGH}) is("before, role(" + i + ")", x.role(i), NONE);
        x.roles(10);
        for (int i = 0; i < 10; i++) is("role(" + i + ")", x.role(i), 1 << i);
        for (int i : new int[] {LOW, -1, 10, 11, 120, HIGH}) is("role(" + i + ")", x.role(i), NONE);
        LeastRights y = keepers(3, 12);
        y.roles(20000);
        is("the last of two", y.role(1), 12);
        is("the first that there is not", y.role(2), NONE);
    }

    private void roleOfLatest() {
        says(17, "of the latest roles()");
        LeastRights x = tenApart();
        x.roles(10);
        x.candidates();
        x.standby(7);
        is("kept less since", x.role(9), 512);
        x.roles(0);
        is("a bad one since", x.role(9), 512);
        is("three", x.roles(20000), 3);
        is("the last of three", x.role(2), 4);
        is("one of before", x.role(3), NONE);
        x.roles(1);
        is("a spent one since", x.role(0), NONE);
    }

    private void rolesOfPeople() {
        says(18, "Which of these ROLES (bits) are within what a PERSON has KEPT now. BAD.");
        LeastRights x = tenApart();
        is("before", x.rolesOf(0), 0);
        x.roles(10);
        for (int p : new int[] {LOW, -1, 10, 11, HIGH}) is("rolesOf(" + p + ")", x.rolesOf(p), BAD);
        for (int p = 0; p < 10; p++) is("rolesOf(" + p + ")", x.rolesOf(p), 1 << p);
        x.change(3, 1, ALL_RIGHTS);
        is("all of them", x.rolesOf(3), 1023);
        x.change(3, 1, 0);
        is("none of them", x.rolesOf(3), 0);
        is("nobody is there", new LeastRights().rolesOf(0), BAD);
    }

    private void rolesOfNow() {
        says(18, "within what a PERSON has KEPT now");
        LeastRights x = keepers(3, 12, 15);
        x.roles(20000);
        is("both", x.rolesOf(2), 3);
        x.standby(14);
        is("a part of a role is not enough", x.rolesOf(2), 2);
        is("had, but not kept", x.rolesOf(0), 0);
        is("one who came since", x.person(0, 12), 3);
        is("its roles", x.rolesOf(3), 2);
        x.roles(1);
        is("a spent one since", x.rolesOf(2), 0);
    }

    private void marksOfRights() {
        says(19, "THE RULE for a RIGHT (bits of MARKS); how many EXCEPTIONS by asked(). BAD; STATE: no PEOPLE.");
        LeastRights x = new LeastRights();
        is("nobody, the first right", x.marksOf(0), STATE);
        is("nobody, the last right", x.marksOf(11), STATE);
        x.person(ALL_MARKS, 2049);
        x.person(0, 0);
        for (int r : new int[] {LOW, -1, 12, 13, 32, HIGH}) is("marksOf(" + r + ")", x.marksOf(r), BAD);
        is("the first right", x.marksOf(0), 1);
        is("the last right", x.marksOf(11), 1);
        is("asked()", x.asked(), 0);
    }

    private void marksOfNothingAndAll() {
        says(19, "A RULE for a RIGHT: a set of MARKS; it tells those who have all of them.");
        LeastRights all = ten(0, ALL_RIGHTS);
        is("all have it, no marks tell all", all.marksOf(5), 0);
        is("with none wrong", all.asked(), 0);
        LeastRights none = ten(0, 0);
        is("none has it, a mark that none has tells none", none.marksOf(5), 1);
        is("with none wrong, too", none.asked(), 0);
        LeastRights marked = ten(ALL_MARKS, 0);
        is("none has it, but every rule tells all", marked.marksOf(5), 0);
        is("with all wrong", marked.asked(), 10);
        LeastRights last = ten(127, 0);
        is("none has it, the last mark tells none", last.marksOf(5), 128);
        is("with none wrong by the last", last.asked(), 0);
    }

    private void marksOfFewest() {
        says(19, "with the fewest EXCEPTIONS (PEOPLE of whom it tells what is not so, by RIGHTS that they have), "
            + "of these with fewest MARKS, of these the least bits.");
        LeastRights x = new LeastRights();
        x.person(ALL_MARKS, 1);
        for (int m = 0; m < 8; m++) x.person(ALL_MARKS - (1 << m), 0);
        is("all marks, for none wrong", x.marksOf(0), ALL_MARKS);
        is("asked()", x.asked(), 0);
        LeastRights y = new LeastRights();
        y.person(131, 1);
        y.person(1, 0);
        y.person(2, 0);
        is("one mark before two of less bits", y.marksOf(0), 128);
        is("asked() of that", y.asked(), 0);
        y.change(0, 0, 7);
        is("the third mark before the first two", y.marksOf(0), 4);
        LeastRights z = new LeastRights();
        z.person(96, 1);
        z.person(0, 0);
        is("the least of two marks", z.marksOf(0), 32);
        z.person(96, 0);
        is("one wrong, and the least of all marks", z.marksOf(0), 1);
        is("asked() with one wrong", z.asked(), 1);
        z.person(0, 1);
        is("two wrong, and no marks", z.marksOf(0), 0);
        is("asked() with two wrong", z.asked(), 2);
    }

    private void marksOfWhatTheyHave() {
        says(19, "by RIGHTS that they have");
        LeastRights x = new LeastRights();
        x.person(1, 1);
        x.person(2, 1);
        is("had, not kept", x.marksOf(0), 0);
        x.strike(1);
        is("struck", x.marksOf(0), 1);
        x.ask(1, 0);
        is("back", x.marksOf(0), 0);
    }

    private void exceptionsArguments() {
        says(20, "PEOPLE (bits) of whom a RULE (MARKS) tells for a RIGHT what is not so. BAD.");
        LeastRights x = new LeastRights();
        x.person(ALL_MARKS, 2049);
        x.person(127, 1);
        for (int r : new int[] {LOW, -1, 12, 13, 32, HIGH}) is("right " + r, x.exceptions(r, 0), BAD);
        for (int m : new int[] {LOW, -1, 256, 257, HIGH}) is("marks " + m, x.exceptions(0, m), BAD);
        is("the first right, no marks", x.exceptions(0, 0), 0);
        is("the first right, all marks", x.exceptions(0, ALL_MARKS), 2);
        is("the last right, no marks", x.exceptions(11, 0), 2);
        is("the last right, all marks", x.exceptions(11, ALL_MARKS), 0);
        is("the last right, all marks but the last", x.exceptions(11, 127), 2);
    }

    private void exceptionsNothingAndAll() {
        says(20, "it tells those who have all of them");
        is("nobody", new LeastRights().exceptions(0, 0), 0);
        is("all told, none has it", ten(ALL_MARKS, 0).exceptions(0, ALL_MARKS), ALL_PEOPLE);
        is("all told by no marks, none has it", ten(0, 0).exceptions(0, 0), ALL_PEOPLE);
        is("none told, all have it", ten(ALL_MARKS - 1, ALL_RIGHTS).exceptions(0, 1), ALL_PEOPLE);
        is("all told, all have it", ten(ALL_MARKS, ALL_RIGHTS).exceptions(0, ALL_MARKS), 0);
        is("none told, none has it", ten(ALL_MARKS - 1, 0).exceptions(0, 1), 0);
        is("some of the marks are not enough", ten(2, ALL_RIGHTS).exceptions(0, 3), ALL_PEOPLE);
    }

    private void banRights() {
        says(21, "A pair of RIGHTS is BANNED, or not: 1 if it was, else 0. BAD: also twice the same.");
        LeastRights x = new LeastRights();
        for (int r : new int[] {LOW, -1, 12, 13, 32, HIGH}) {
            for (boolean is : new boolean[] {true, false}) {
                is("ban(" + r + ", 0, " + is + ")", x.ban(r, 0, is), BAD);
                is("ban(0, " + r + ", " + is + ")", x.ban(0, r, is), BAD);
                is("ban(" + r + ", " + r + ", " + is + ")", x.ban(r, r, is), BAD);
            }
        }
        for (int r = 0; r < 12; r++) {
            is("on: twice " + r, x.ban(r, r, true), BAD);
            is("off: twice " + r, x.ban(r, r, false), BAD);
        }
        is("count(5)", x.count(5), 0);
        is("the first and the last", x.ban(0, 11, true), 0);
        is("again", x.ban(0, 11, true), 1);
        is("turned round", x.ban(11, 0, true), 1);
        is("one pair", x.count(5), 1);
        is("off, turned round", x.ban(11, 0, false), 1);
        is("off again", x.ban(0, 11, false), 0);
        is("off once more, turned round", x.ban(11, 0, false), 0);
        is("no pair", x.count(5), 0);
    }

    private void banAll() {
        says(21, "1 if it was, else 0");
        LeastRights x = new LeastRights();
        int pairs = 0;
        for (int a = 0; a < 12; a++) {
            for (int b = 0; b < a; b++) {
                is("on: " + a + ", " + b, x.ban(a, b, true), 0);
                pairs++;
            }
        }
        is("pairs", pairs, 66);
        is("count(5)", x.count(5), 66);
        is("one off", x.ban(4, 9, false), 1);
        is("count(5) then", x.count(5), 65);
        for (int a = 0; a < 12; a++) {
            for (int b = a + 1; b < 12; b++) {
                is("on still: " + a + ", " + b, x.ban(a, b, true), a == 4 && b == 9 ? 0 : 1);
            }
        }
    }

    private void breachOfBoth() {
        says(22, "A PERSON is in BREACH if it has both of one.");
        LeastRights x = people(1, 2048, 2049, 2046);
        is("no pair is banned", x.breach(), 0);
        x.ban(0, 11, true);
        is("the one that has both", x.breach(), 4);
        x.strike(2);
        is("struck", x.breach(), 0);
        x.ask(2, 0);
        is("one is back", x.breach(), 0);
        x.ask(2, 11);
        is("both are back", x.breach(), 4);
        x.ban(11, 0, false);
        is("banned no more", x.breach(), 0);
    }

    private void breachNothingAndAll() {
        says(22, "PEOPLE (bits) that are in BREACH.");
        LeastRights nobody = new LeastRights();
        nobody.ban(0, 1, true);
        is("nobody", nobody.breach(), 0);
        LeastRights all = ten(0, 3);
        all.ban(0, 1, true);
        is("all ten", all.breach(), ALL_PEOPLE);
        all.change(0, 1, 1);
        all.change(9, 1, 2);
        is("all but the first and the last", all.breach(), ALL_PEOPLE - 513);
        LeastRights none = ten(0, 0);
        none.ban(0, 1, true);
        is("none of ten", none.breach(), 0);
    }

    private void leastOfNone() {
        says(23, "THE LEAST CHANGE of a PERSON (bits; 0: it is in none). BAD.");
        LeastRights x = people(0, 3, ALL_RIGHTS);
        for (int p : new int[] {LOW, -1, 3, 10, HIGH}) is("least(" + p + ")", x.least(p), BAD);
        is("no bans", x.least(2), 0);
        x.ban(10, 11, true);
        is("no rights", x.least(0), 0);
        is("neither of the two", x.least(1), 0);
        is("both", x.least(2), 1024);
        is("it has them still", x.told(2, 1), ALL_RIGHTS);
        x.change(2, 1, 1024);
        is("the one", x.least(2), 0);
        x.change(2, 1, 2048);
        is("the other one", x.least(2), 0);
    }

    private void leastFewest() {
        says(23, "the fewest RIGHTS that have to go so that it is in none");
        LeastRights x = people(ALL_RIGHTS);
        x.use(0, 11, 0);
        x.ban(11, 0, true);
        is("two of one pair, the last is kept", x.least(0), 1);
        x.ban(11, 1, true);
        is("one that is kept before two that are not", x.least(0), 2048);
        x.ban(2, 3, true);
        is("and one of a pair apart", x.least(0), 2052);
        x.ban(0, 1, true);
        is("two of three", x.least(0), 7);
    }

    private void leastKept() {
        says(23, "of these sets that with the fewest that are KEPT, then the least bits");
        LeastRights x = people(7);
        x.ban(0, 1, true);
        x.ban(0, 2, true);
        x.ban(1, 2, true);
        is("none kept", x.least(0), 3);
        x.use(0, 0, 0);
        is("the first kept", x.least(0), 6);
        x.use(0, 1, 0);
        is("the first two kept", x.least(0), 5);
        x.use(0, 2, 0);
        is("all kept", x.least(0), 3);
        x.later(30);
        is("none kept any more", x.least(0), 3);
        x.standby(1);
        is("one kept as a standby one", x.least(0), 6);
        x.later(70);
        is("all kept as seldom ones", x.least(0), 3);
    }

    private void leastAll() {
        says(23, "THE LEAST CHANGE of a PERSON: the fewest RIGHTS that have to go so that it is in none");
        LeastRights x = people(ALL_RIGHTS);
        for (int a = 0; a < 12; a++) {
            for (int b = a + 1; b < 12; b++) x.ban(a, b, true);
        }
        is("every pair, none kept: the last one stays", x.least(0), ALL_RIGHTS - 2048);
        x.use(0, 3, 0);
        is("one kept: it stays", x.least(0), ALL_RIGHTS - 8);
        x.use(0, 0, 0);
        is("two kept: the greater one stays", x.least(0), ALL_RIGHTS - 8);
        x.standby(ALL_RIGHTS);
        is("all kept", x.least(0), ALL_RIGHTS - 2048);
    }

    private void badRoleFirst() {
        says(24, "The first of the ROLES of the latest roles() that has both of a BANNED pair; NONE.");
        LeastRights x = keepers(3, 2, 4, 8, 16, 32, 64, 128, 256, 3584);
        is("roles", x.roles(20000), 10);
        is("no bans", x.badRole(), NONE);
        x.ban(0, 2, true);
        is("a pair of two roles", x.badRole(), NONE);
        x.ban(10, 11, true);
        is("the last", x.badRole(), 9);
        is("the last has both", x.role(9), 3584);
        x.ban(1, 0, true);
        is("two of them", x.role(x.badRole()), 3);
        x.ban(0, 1, false);
        is("the last again", x.badRole(), 9);
        x.ban(11, 10, false);
        is("none again", x.badRole(), NONE);
    }

    private void badRoleNone() {
        says(24, "ROLES of the latest roles()");
        LeastRights x = keepers(3, 12);
        x.ban(0, 1, true);
        is("before", x.badRole(), NONE);
        x.roles(0);
        is("a bad one", x.badRole(), NONE);
        x.roles(20000);
        is("the first", x.badRole(), 0);
        x.change(0, 1, 0);
        x.roles(20001);
        is("of the latest that was not refused, not of now", x.badRole(), 0);
        x.roles(20000);
        is("found again", x.badRole(), NONE);
    }
}
