/** Each promise of the document by its number: ordinary inputs, edges and wrong inputs. */
public final class PromiseTest {
    private static final int LOW = Integer.MIN_VALUE, HIGH = Integer.MAX_VALUE;
    private static final Due DUE = new Due();

    public static void main(String[] args) {
        promise01();
        promise02();
        promise03();
        promise04();
        promise05();
        promise06();
        promise07();
        promise08();
        promise09();
        promise09Seldom();
        promise10();
        promise11();
        promise12();
        promise13();
        promise14();
        promise15();
        promise15FewestOnLaterWay();
        promise16();
        promise17();
        promise18();
        promise19();
        promise20();
        promise21();
        promise22();
        promise23();
        promise24();
        promise25();
        promise26();
        promise27();
        promise28();
        promise29();
        promise30();
        promise31();
        promise32();
        promise33();
        promise34();
        promise35();
        promise35Refused();
        promise36();
        promise37();
        promise38();
        promise39();
        promise40();
        refusedChangesNothing();
        DUE.end("PromiseTest");
    }

    private static void due(String call, long got, long want) {
        DUE.is(call, got, want);
    }

    private static void promise01() {
        LeastRights x = new LeastRights();
        for (int what = 0; what <= 5; what++) due("1 count " + what, x.count(what), 0);
        for (int what = 0; what <= 2; what++) due("1 asks " + what, x.asks(what), 0);
        for (int f = 1; f <= 4; f++) due("1 findings " + f, x.findings(f), 0);
        for (int s = 0; s <= 3; s++) due("1 tear " + s, x.tear(s), -3);
        due("1 no plan", x.stopped(1), -4);
        due("1 standby", x.standby(0), 0);
        due("1 role", x.role(0), -9);
        due("1 asked", x.asked(), 0);
        due("1 tries", x.tries(), 0);
        firstSpanSeasonGrace();
    }

    private static void firstSpanSeasonGrace() {
        LeastRights x = new LeastRights();
        x.person(0, 1);
        x.use(0, 0, 0);
        x.later(29);
        due("1 span 30, last day", x.kind(0, 0), 1);
        x.later(1);
        due("1 span 30, over", x.kind(0, 0), 0);
        due("1 strike", x.strike(0), 1);
        x.later(60);
        due("1 grace 60, last day", x.ask(0, 0), 1);
        due("1 season 100, at 90", x.kind(0, 0), 2);
        x.later(10);
        due("1 season 100, at 100", x.kind(0, 0), 2);
        x.later(1);
        due("1 season 100, at 101", x.kind(0, 0), 0);
        x.strike(0);
        x.later(61);
        due("1 grace 60, over", x.ask(0, 0), 0);
    }

    private static void promise02() {
        LeastRights x = new LeastRights();
        due("2 marks -1", x.person(-1, 0), -1);
        due("2 marks 256", x.person(256, 0), -1);
        due("2 rights -1", x.person(0, -1), -1);
        due("2 rights 4096", x.person(0, 4096), -1);
        due("2 far", x.person(LOW, HIGH), -1);
        due("2 none came", x.count(0), 0);
        for (int p = 0; p < 10; p++) due("2 person " + p, x.person(255 - p, 4095 - p), p);
        due("2 full", x.person(0, 0), -2);
        due("2 bad before full", x.person(256, 0), -1);
        due("2 ten", x.count(0), 10);
        for (int p = 0; p < 10; p++) {
            due("2 marks of " + p, x.told(p, 0), 255 - p);
            due("2 rights of " + p, x.told(p, 1), 4095 - p);
        }
    }

    private static void promise03() {
        LeastRights x = new LeastRights();
        due("3 nobody", x.change(0, 0, 0), -1);
        x.person(5, 7);
        due("3 marks", x.change(0, 0, 255), 5);
        due("3 marks again", x.change(0, 0, 1), 255);
        due("3 rights are as before", x.told(0, 1), 7);
        due("3 rights", x.change(0, 1, 4095), 7);
        due("3 rights again", x.change(0, 1, 6), 4095);
        due("3 what goes so is not struck", x.told(0, 3), 0);
        due("3 strike", x.strike(0), 2);
        due("3 struck", x.told(0, 3), 6);
        due("3 one given", x.change(0, 1, 10), 0);
        due("3 given is struck no more", x.told(0, 3), 4);
        due("3 taken again", x.change(0, 1, 0), 10);
        due("3 not struck, so no", x.ask(0, 1), 0);
        due("3 still struck, so yes", x.ask(0, 2), 1);
        due("3 marks 256", x.change(0, 0, 256), -1);
        due("3 marks -1", x.change(0, 0, -1), -1);
        due("3 rights 4096", x.change(0, 1, 4096), -1);
        due("3 rights -1", x.change(0, 1, -1), -1);
        due("3 what 2", x.change(0, 2, 0), -1);
        due("3 what -1", x.change(0, -1, 0), -1);
        due("3 person 1", x.change(1, 0, 0), -1);
        due("3 person -1", x.change(-1, 1, 0), -1);
        due("3 marks stay", x.told(0, 0), 1);
    }

    private static void promise04() {
        LeastRights x = new LeastRights();
        due("4 nobody", x.told(0, 0), -1);
        x.person(9, 15);
        x.person(3, 8);
        x.standby(4);
        x.use(0, 0, 0);
        x.use(0, 0, 0);
        x.use(1, 3, 0);
        due("4 marks", x.told(0, 0), 9);
        due("4 rights", x.told(0, 1), 15);
        due("4 kept", x.told(0, 2), 5);
        due("4 struck before", x.told(0, 3), 0);
        due("4 uses", x.told(0, 4), 2);
        due("4 uses of the other", x.told(1, 4), 1);
        x.strike(0);
        due("4 struck", x.told(0, 3), 10);
        x.change(0, 1, 1);
        due("4 kept is of rights it has", x.told(0, 2), 1);
        x.change(0, 1, 0);
        due("4 uses stay", x.told(0, 4), 2);
        x.later(999);
        due("4 struck beyond the grace", x.told(0, 3), 10);
        due("4 what 5", x.told(0, 5), -1);
        due("4 what -1", x.told(0, -1), -1);
        due("4 person 2", x.told(2, 0), -1);
        due("4 person -1", x.told(-1, 0), -1);
        due("4 far", x.told(HIGH, LOW), -1);
    }

    private static void promise05() {
        LeastRights x = new LeastRights();
        due("5 first", x.standby(4095), 0);
        due("5 second", x.standby(2), 4095);
        due("5 4096", x.standby(4096), -1);
        due("5 -1", x.standby(-1), -1);
        x.person(0, 7);
        due("5 kept", x.told(0, 2), 2);
        due("5 none", x.standby(0), 2);
        due("5 kept no more", x.told(0, 2), 0);
    }

    private static void promise06() {
        LeastRights x = new LeastRights();
        due("6 least", x.rule(1, 1, 0), 1);
        due("6 most", x.rule(999, 999, 999), 1);
        x.person(0, 1);
        x.use(0, 0, 0);
        x.later(998);
        due("6 span 999", x.kind(0, 0), 1);
        due("6 span 0", x.rule(0, 1, 1), -1);
        due("6 span 1000", x.rule(1000, 1, 1), -1);
        due("6 season 0", x.rule(1, 0, 1), -1);
        due("6 season 1000", x.rule(1, 1000, 1), -1);
        due("6 grace -1", x.rule(1, 1, -1), -1);
        due("6 grace 1000", x.rule(1, 1, 1000), -1);
        due("6 refused changes nothing", x.kind(0, 0), 1);
        due("6 span 998", x.rule(998, 999, 0), 1);
        due("6 seldom by season 999", x.kind(0, 0), 2);
        due("6 season 997", x.rule(1, 997, 0), 1);
        due("6 not seldom", x.kind(0, 0), 0);
        due("6 strike", x.strike(0), 1);
        x.later(1);
        due("6 grace 0 is over", x.ask(0, 0), 0);
        due("6 grace 1", x.rule(1, 997, 1), 1);
        due("6 grace 1 is not over", x.ask(0, 0), 1);
    }

    private static void promise07() {
        LeastRights x = new LeastRights();
        due("7 none", x.later(0), 0);
        due("7 one", x.later(1), 1);
        due("7 -1", x.later(-1), -1);
        due("7 beyond", x.later(999), -1);
        due("7 far", x.later(HIGH), -1);
        due("7 far below", x.later(LOW), -1);
        due("7 all", x.later(998), 999);
        due("7 none more", x.later(1), -1);
        due("7 stays", x.later(0), 999);
        due("7 count", x.count(1), 999);
    }

    private static void promise08() {
        LeastRights x = new LeastRights();
        due("8 nobody", x.use(0, 0, 0), -1);
        x.person(0, 2049);
        x.later(7);
        due("8 first", x.use(0, 0, 0), 1);
        due("8 the same again", x.use(0, 0, 0), 2);
        due("8 the first day", x.use(0, 11, 7), 3);
        due("8 before it", x.use(0, 11, 8), -1);
        due("8 to come", x.use(0, 11, -1), -1);
        due("8 right 12", x.use(0, 12, 0), -1);
        due("8 right -1", x.use(0, -1, 0), -1);
        due("8 person 1", x.use(1, 0, 0), -1);
        due("8 person -1", x.use(-1, 0, 0), -1);
        due("8 not had", x.use(0, 1, 0), -4);
        due("8 bad before not had", x.use(0, 1, 8), -1);
        for (int n = 4; n <= 400; n++) due("8 use " + n, x.use(0, 0, 1), n);
        due("8 full", x.use(0, 0, 0), -2);
        due("8 full before not had", x.use(0, 1, 0), -2);
        due("8 bad before full", x.use(0, 0, 8), -1);
        due("8 uses", x.count(2), 400);
        due("8 day of the last", x.used(399, 2), 6);
    }

    private static void promise09() {
        LeastRights x = new LeastRights();
        due("9 nobody", x.kind(0, 0), -1);
        x.person(0, 15);
        x.person(0, 15);
        x.rule(5, 20, 0);
        x.standby(12);
        x.use(0, 0, 0);
        x.use(0, 2, 0);
        due("9 used", x.kind(0, 0), 1);
        due("9 not by the other one", x.kind(1, 0), 0);
        due("9 not used", x.kind(0, 1), 0);
        due("9 used ahead of standby", x.kind(0, 2), 1);
        due("9 standby", x.kind(0, 3), 3);
        due("9 not had", x.kind(0, 4), -4);
        due("9 right 12", x.kind(0, 12), -1);
        due("9 right -1", x.kind(0, -1), -1);
        due("9 person 2", x.kind(2, 0), -1);
        due("9 person -1", x.kind(-1, 0), -1);
        x.later(4);
        due("9 last day of the span", x.kind(0, 0), 1);
        x.later(1);
        due("9 span over", x.kind(0, 0), 0);
        due("9 span over, standby", x.kind(0, 2), 3);
        x.later(11);
        due("9 seldom ahead of standby", x.kind(0, 2), 2);
        due("9 seldom, not by the other one", x.kind(1, 0), 0);
        x.use(0, 0, 0);
        due("9 used ahead of seldom", x.kind(0, 0), 1);
        x.change(0, 1, 0);
        due("9 has it no more", x.kind(0, 0), -4);
    }

    private static void promise09Seldom() {
        // Span 5, season 20, used on day 0: due within the span on days 16 .. 20, 36 .. 40, and so on.
        LeastRights x = new LeastRights();
        x.person(0, 1);
        x.rule(5, 20, 0);
        x.use(0, 0, 0);
        for (int day = 1; day <= 200; day++) {
            x.later(1);
            int rest = day % 20;
            int want = day < 5 ? 1 : rest == 0 || rest >= 16 ? 2 : 0;
            due("9 season at day " + day, x.kind(0, 0), want);
        }
        seasonWithinSpan();
    }

    private static void seasonWithinSpan() {
        LeastRights x = new LeastRights();
        x.person(0, 3);
        x.rule(10, 3, 0);
        x.use(0, 0, 0);
        x.later(50);
        due("9 a season shorter than the span", x.kind(0, 0), 2);
        x.rule(1, 1, 0);
        due("9 a season of one day", x.kind(0, 0), 2);
        x.rule(1, 7, 0);
        due("9 not by sevens", x.kind(0, 0), 0);
        x.use(0, 0, 1);
        due("9 a later use does not help", x.kind(0, 0), 0);
        x.use(0, 0, 49);
        due("9 one of several does", x.kind(0, 0), 2);
        x.rule(2, 999, 0);
        x.later(948);
        due("9 day 998", x.count(1), 998);
        due("9 days beyond the last one count", x.kind(0, 0), 2);
    }

    private static void promise10() {
        LeastRights x = new LeastRights();
        due("10 nobody", x.uses(0, 0, 0), -1);
        x.person(0, 31);
        x.person(0, 31);
        x.standby(8);
        x.rule(2, 10, 0);
        x.use(0, 1, 0);
        x.use(0, 1, 0);
        x.later(10);
        x.use(0, 0, 0);
        x.use(0, 0, 9);
        x.use(0, 0, 1);
        x.use(1, 0, 0);
        int[][] want = {{3, 3, -3, -3}, {2, 2, 2, -3}, {0, -3, -3, -3}, {0, -3, -3, 0}};
        for (int right = 0; right < 4; right++) {
            for (int kind = 0; kind < 4; kind++) {
                due("10 uses " + right + " " + kind, x.uses(0, right, kind), want[right][kind]);
            }
        }
        due("10 unlike", x.finding(), 3);
        due("10 how often", x.findings(3), 8);
        due("10 kind 4", x.uses(0, 0, 4), -1);
        due("10 kind -1", x.uses(0, 0, -1), -1);
        due("10 right 12", x.uses(0, 12, 0), -1);
        due("10 right -1", x.uses(0, -1, 0), -1);
        due("10 person 2", x.uses(2, 0, 0), -1);
        due("10 not had", x.uses(0, 5, 0), -4);
        due("10 not had before unlike", x.uses(0, 5, 1), -4);
        due("10 bad before not had", x.uses(0, 5, 4), -1);
        due("10 no finding more", x.findings(3), 8);
    }

    private static void promise11() {
        LeastRights x = new LeastRights();
        due("11 nobody", x.strike(0), -1);
        x.person(0, 31);
        x.person(0, 31);
        x.standby(2);
        x.use(0, 0, 0);
        due("11 three go", x.strike(0), 3);
        due("11 kept stay", x.told(0, 1), 3);
        due("11 struck", x.told(0, 3), 28);
        due("11 the other one", x.told(1, 1), 31);
        due("11 none go", x.strike(0), 0);
        due("11 struck still", x.told(0, 3), 28);
        due("11 person 2", x.strike(2), -1);
        due("11 person -1", x.strike(-1), -1);
        x.later(30);
        due("11 one more goes", x.strike(0), 1);
        due("11 together", x.told(0, 3), 29);
        x.later(31);
        due("11 struck 61 days ago", x.ask(0, 2), 0);
        due("11 struck 31 days ago", x.ask(0, 0), 1);
    }

    private static void promise12() {
        LeastRights x = new LeastRights();
        due("12 nobody", x.ask(0, 0), -1);
        x.person(0, 7);
        x.person(0, 0);
        x.rule(1, 999, 3);
        due("12 has it", x.ask(0, 0), 2);
        due("12 never had", x.ask(0, 3), 0);
        x.strike(0);
        due("12 not the other one's", x.ask(1, 0), 0);
        x.later(3);
        due("12 within the grace", x.ask(0, 0), 1);
        due("12 has it again", x.told(0, 1), 1);
        due("12 struck no more", x.told(0, 3), 6);
        due("12 has it now", x.ask(0, 0), 2);
        x.change(0, 1, 0);
        due("12 not struck, only taken", x.ask(0, 0), 0);
        x.later(1);
        due("12 beyond the grace", x.ask(0, 1), 0);
        due("12 stays struck", x.told(0, 3), 6);
        x.rule(1, 999, 4);
        due("12 a longer grace", x.ask(0, 1), 1);
        due("12 right 12", x.ask(0, 12), -1);
        due("12 right -1", x.ask(0, -1), -1);
        due("12 person 2", x.ask(2, 0), -1);
        due("12 person -1", x.ask(-1, 0), -1);
        x.rule(1, 999, 0);
        x.strike(0);
        due("12 grace 0, the same day", x.ask(0, 1), 1);
    }

    private static void promise13() {
        LeastRights x = new LeastRights();
        x.person(0, 1);
        x.ask(0, 0);
        x.ask(0, 0);
        x.ask(0, 0);
        x.ask(0, 1);
        x.ask(0, 2);
        x.strike(0);
        x.ask(0, 0);
        x.ask(0, 12);
        x.ask(1, 0);
        due("13 no", x.asks(0), 2);
        due("13 back", x.asks(1), 1);
        due("13 has it", x.asks(2), 3);
        due("13 what 3", x.asks(3), -1);
        due("13 what -1", x.asks(-1), -1);
        due("13 far", x.asks(LOW), -1);
    }

    private static void promise14() {
        LeastRights x = new LeastRights();
        due("14 nobody", x.candidates(), 0);
        x.standby(4095);
        x.person(0, 0);
        due("14 the empty set is none", x.candidates(), 0);
        x.person(0, 7);
        x.person(0, 7);
        due("14 the same twice", x.candidates(), 1);
        x.person(0, 14);
        due("14 two and what they share", x.candidates(), 3);
        x.person(0, 48);
        due("14 one apart", x.candidates(), 4);
        x.standby(6);
        due("14 by what is kept", x.candidates(), 1);

        LeastRights y = new LeastRights();
        y.standby(4095);
        for (int p = 0; p < 10; p++) y.person(0, 4095 & ~(1 << p));
        due("14 the most", y.candidates(), 1023);
    }

    private static LeastRights people(int... rights) {
        LeastRights x = new LeastRights();
        x.standby(4095);
        for (int set : rights) x.person(0, set);
        return x;
    }

    private static void rolesAre(String what, LeastRights x, int tries, int... sets) {
        due(what + " roles", x.roles(20000), sets.length);
        due(what + " tries", x.tries(), tries);
        for (int i = 0; i < sets.length; i++) due(what + " role " + i, x.role(i), sets[i]);
        due(what + " no more", x.role(sets.length), -9);
    }

    private static void promise15() {
        rolesAre("15 nobody", people(), 0);
        rolesAre("15 nothing kept", people(0, 0), 0);
        rolesAre("15 one", people(9), 1, 9);
        rolesAre("15 the same", people(9, 9), 1, 9);
        rolesAre("15 two apart", people(3, 12), 2, 3, 12);
        rolesAre("15 a part", people(1, 3), 2, 1, 3);
        rolesAre("15 by pairs", people(3, 5, 6, 7), 8, 1, 2, 4);
        LeastRights x = people(3, 5, 6, 7);
        due("15 n 0", x.roles(0), -1);
        due("15 n -1", x.roles(-1), -1);
        due("15 n 20001", x.roles(20001), -1);
        due("15 one try too few", x.roles(7), -6);
        due("15 none are told", x.role(0), -9);
        due("15 just enough", x.roles(8), 3);
        due("15 told again", x.role(0), 1);
        due("15 n 1", x.roles(1), -6);
        due("15 no finding", x.finding(), 0);
        x.standby(0);
        due("15 by what is kept", x.roles(1), 0);
    }

    private static void promise15FewestOnLaterWay() {
        // Candidates 2, 3, 6, 7: the first way takes 3, 2, 6; the fewest, by the last try, are 3 and 6.
        LeastRights x = people(3, 6, 7);
        rolesAre("15 a shorter way later", x, 4, 3, 6);
        due("15 three are too few, though some roles were found", x.roles(3), -6);
        due("15 none of these are told", x.role(0), -9);
        due("15 four are enough", x.roles(4), 2);

        rolesAre("15 the first of two rows with the fewest", people(4, 3, 6), 4, 4, 3, 2);
        rolesAre("15 a longer search", people(31, 27, 24, 22, 28), 14, 27, 20, 24, 18);

        LeastRights y = new LeastRights();
        y.standby(4095);
        for (int p = 0; p < 10; p++) y.person(0, 4095 & ~(1 << p));
        due("15 more than the most tries", y.roles(20000), -6);
        due("15 none told", y.role(0), -9);
        due("15 tries spent", y.tries(), 20000);
        due("15 no role of anyone", y.rolesOf(0), 0);
    }

    private static void promise16() {
        LeastRights x = people(3, 5, 6, 7);
        due("16 before", x.tries(), 0);
        x.roles(100);
        due("16 eight", x.tries(), 8);
        x.roles(0);
        due("16 after a bad one", x.tries(), 8);
        x.roles(5);
        due("16 after a spent one", x.tries(), 5);
        x.roles(20001);
        due("16 after another bad one", x.tries(), 5);
        x.standby(0);
        x.roles(5);
        due("16 none", x.tries(), 0);
    }

    private static void promise17() {
        LeastRights x = people(3, 12);
        due("17 before", x.role(0), -9);
        x.roles(20000);
        due("17 role 0", x.role(0), 3);
        due("17 role 1", x.role(1), 12);
        due("17 role 2", x.role(2), -9);
        due("17 role -1", x.role(-1), -9);
        due("17 far", x.role(HIGH), -9);
        due("17 far below", x.role(LOW), -9);
        x.standby(0);
        x.candidates();
        due("17 stays until roles()", x.role(1), 12);
        x.roles(0);
        due("17 stays if that is bad", x.role(1), 12);
        x.roles(1);
        due("17 none then", x.role(0), -9);
    }

    private static void promise18() {
        LeastRights x = people(3, 12, 15, 4);
        due("18 before", x.rolesOf(0), 0);
        due("18 roles", x.roles(20000), 3);
        due("18 role 0", x.role(0), 3);
        due("18 role 1", x.role(1), 4);
        due("18 role 2", x.role(2), 12);
        due("18 person 0", x.rolesOf(0), 1);
        due("18 person 1", x.rolesOf(1), 6);
        due("18 person 2", x.rolesOf(2), 7);
        due("18 person 3", x.rolesOf(3), 2);
        x.standby(11);
        due("18 by what is kept now", x.rolesOf(2), 1);
        due("18 a newcomer", x.person(0, 3), 4);
        due("18 of a newcomer", x.rolesOf(4), 1);
        due("18 person 5", x.rolesOf(5), -1);
        due("18 person -1", x.rolesOf(-1), -1);
    }

    private static void promise19() {
        LeastRights x = new LeastRights();
        due("19 nobody", x.marksOf(0), -4);
        due("19 bad before nobody", x.marksOf(12), -1);
        x.person(0b0111, 1);
        x.person(0b0011, 0);
        x.person(0b0101, 0);
        x.person(0b1110, 3);
        due("19 two marks", x.marksOf(0), 6);
        due("19 just those", x.asked(), 0);
        due("19 one mark", x.marksOf(1), 8);
        due("19 none has it", x.marksOf(2), 16);
        due("19 right 12", x.marksOf(12), -1);
        due("19 right -1", x.marksOf(-1), -1);
        x.change(1, 1, 8);
        x.change(2, 1, 8);
        due("19 the least bits of some with one wrong", x.marksOf(3), 1);
        due("19 one exception", x.asked(), 1);
        for (int p = 0; p < 4; p++) x.change(p, 1, 8);
        due("19 all have it", x.marksOf(3), 0);
        due("19 with none wrong", x.asked(), 0);
        x.standby(0);
        due("19 by what they have, not kept", x.told(0, 2), 0);
    }

    private static void promise20() {
        LeastRights x = new LeastRights();
        due("20 nobody", x.exceptions(0, 0), 0);
        x.person(3, 1);
        x.person(1, 1);
        x.person(3, 0);
        x.person(0, 2);
        due("20 all are told", x.exceptions(0, 0), 12);
        due("20 mark 0", x.exceptions(0, 1), 4);
        due("20 marks 0 and 1", x.exceptions(0, 3), 6);
        due("20 mark 7", x.exceptions(0, 128), 3);
        due("20 all marks", x.exceptions(1, 255), 8);
        due("20 marks 256", x.exceptions(0, 256), -1);
        due("20 marks -1", x.exceptions(0, -1), -1);
        due("20 right 12", x.exceptions(12, 0), -1);
        due("20 right -1", x.exceptions(-1, 0), -1);
    }

    private static void promise21() {
        LeastRights x = new LeastRights();
        due("21 new", x.ban(0, 11, true), 0);
        due("21 again", x.ban(0, 11, true), 1);
        due("21 the other way round", x.ban(11, 0, true), 1);
        due("21 one pair", x.count(5), 1);
        due("21 another", x.ban(3, 2, true), 0);
        due("21 two pairs", x.count(5), 2);
        due("21 the same right with a third", x.ban(2, 11, true), 0);
        due("21 the first pair stays", x.ban(11, 0, true), 1);
        due("21 the third no more", x.ban(2, 11, false), 1);
        due("21 no more, the other way round", x.ban(11, 0, false), 1);
        due("21 was not", x.ban(0, 11, false), 0);
        due("21 one is left", x.count(5), 1);
        due("21 twice the same", x.ban(4, 4, true), -1);
        due("21 twice the same, off", x.ban(4, 4, false), -1);
        due("21 a 12", x.ban(12, 0, true), -1);
        due("21 b 12", x.ban(0, 12, true), -1);
        due("21 a -1", x.ban(-1, 0, true), -1);
        due("21 b -1", x.ban(0, -1, false), -1);
    }

    private static void promise22() {
        LeastRights x = new LeastRights();
        due("22 nobody", x.breach(), 0);
        x.person(0, 3);
        x.person(0, 1);
        x.person(0, 4095);
        due("22 no bans", x.breach(), 0);
        x.ban(1, 0, true);
        due("22 two of them", x.breach(), 5);
        x.ban(10, 11, true);
        x.ban(0, 1, false);
        due("22 the other pair", x.breach(), 4);
        x.change(1, 1, 3072);
        due("22 by what they have", x.breach(), 6);
    }

    private static void promise23() {
        LeastRights x = new LeastRights();
        due("23 nobody", x.least(0), -1);
        x.person(0, 31);
        due("23 no bans", x.least(0), 0);
        x.ban(4, 3, true);
        due("23 the least bits", x.least(0), 8);
        x.use(0, 3, 0);
        due("23 the one that is not kept", x.least(0), 16);
        x.use(0, 4, 0);
        due("23 both kept", x.least(0), 8);
        x.ban(4, 2, true);
        due("23 the fewest, kept or not", x.least(0), 16);
        x.ban(0, 1, true);
        due("23 two pairs apart", x.least(0), 17);
        x.standby(1);
        due("23 kept by standby", x.least(0), 18);
        due("23 changes nothing", x.told(0, 1), 31);
        due("23 person 1", x.least(1), -1);
        due("23 person -1", x.least(-1), -1);
        x.change(0, 1, 5);
        due("23 in none", x.least(0), 0);
        x.change(0, 1, 4095);
        for (int a = 0; a < 12; a++) {
            for (int b = a + 1; b < 12; b++) x.ban(a, b, true);
        }
        due("23 all but one, and that one kept", x.least(0), 4095 & ~16);
    }

    private static void promise24() {
        LeastRights x = people(3, 12, 48);
        due("24 before", x.badRole(), -9);
        x.ban(4, 5, true);
        due("24 no roles yet", x.badRole(), -9);
        x.roles(20000);
        due("24 the third", x.badRole(), 2);
        x.ban(2, 3, true);
        due("24 the second", x.badRole(), 1);
        x.ban(0, 2, true);
        due("24 across roles is none", x.badRole(), 1);
        x.ban(0, 1, true);
        due("24 the first", x.badRole(), 0);
        x.ban(0, 1, false);
        x.ban(2, 3, false);
        x.ban(4, 5, false);
        due("24 none", x.badRole(), -9);
        x.ban(0, 1, true);
        x.roles(1);
        due("24 none told", x.badRole(), -9);
    }

    private static void promise25() {
        LeastRights x = new LeastRights();
        due("25 nobody", x.plan(false), 0);
        x.person(0, 7);
        x.person(0, 9);
        x.use(0, 1, 0);
        x.standby(8);
        due("25 all", x.plan(false), 5);
        due("25 kept", x.plan(true), 2);
        due("25 nothing has changed", x.count(3), 5);
        due("25 apply", x.apply(), 3);
        due("25 has kept", x.told(0, 1), 2);
        due("25 has kept, too", x.told(1, 1), 8);
    }

    private static void promise26() {
        LeastRights x = new LeastRights();
        due("26 nobody", x.takeOut(0, 0), -1);
        x.person(0, 6);
        due("26 no plan", x.takeOut(0, 1), -4);
        due("26 bad before no plan", x.takeOut(0, 12), -1);
        x.plan(false);
        due("26 out", x.takeOut(0, 1), 1);
        due("26 out already", x.takeOut(0, 1), 0);
        due("26 never in", x.takeOut(0, 0), 0);
        due("26 has it still", x.told(0, 1), 6);
        x.person(0, 6);
        due("26 came since", x.takeOut(1, 1), -1);
        due("26 right 12", x.takeOut(0, 12), -1);
        due("26 right -1", x.takeOut(0, -1), -1);
        due("26 person -1", x.takeOut(-1, 0), -1);
        due("26 person 2", x.takeOut(2, 0), -1);
        x.plan(false);
        due("26 in a new plan", x.takeOut(1, 1), 1);
        due("26 the first one is in again", x.takeOut(0, 1), 1);
    }

    /** Uses 0 .. 3 on days 0, 5, 8, 10; it is day 10; right 0 is out of the plan, right 1 in it. */
    private static LeastRights planned() {
        LeastRights x = new LeastRights();
        x.person(0, 3);
        x.use(0, 0, 0);
        x.later(10);
        x.use(0, 0, 5);
        x.use(0, 1, 2);
        x.use(0, 0, 0);
        x.plan(false);
        x.takeOut(0, 0);
        return x;
    }

    private static void promise27() {
        LeastRights none = new LeastRights();
        due("27 no plan", none.stopped(1), -4);
        due("27 bad before no plan", none.stopped(0), -1);
        LeastRights x = planned();
        due("27 today", x.stopped(1), 1);
        due("27 five days", x.stopped(5), 1);
        due("27 six days", x.stopped(6), 2);
        due("27 ten days", x.stopped(10), 2);
        due("27 eleven days", x.stopped(11), 3);
        due("27 the most days", x.stopped(1000), 3);
        due("27 n 1001", x.stopped(1001), -1);
        due("27 n 0", x.stopped(0), -1);
        due("27 n -1", x.stopped(-1), -1);
        x.change(0, 1, 0);
        due("27 by the plan, not by what they have", x.stopped(1000), 3);
        x.person(0, 2);
        x.use(1, 1, 0);
        due("27 one who came since", x.stopped(1), 2);
        x.later(989);
        due("27 the first day of all", x.stopped(1000), 4);
        due("27 not the first day", x.stopped(999), 3);
    }

    private static void promise28() {
        LeastRights none = new LeastRights();
        due("28 no plan", none.stop(1, 0), -4);
        due("28 bad before no plan", none.stop(1, -1), -1);
        LeastRights x = planned();
        due("28 from 0", x.stop(1000, 0), 0);
        due("28 from 1", x.stop(1000, 1), 1);
        due("28 from 2", x.stop(1000, 2), 3);
        due("28 from 3", x.stop(1000, 3), 3);
        due("28 from 4", x.stop(1000, 4), -9);
        due("28 far", x.stop(1000, HIGH), -9);
        due("28 today", x.stop(1, 0), 3);
        due("28 six days", x.stop(6, 0), 1);
        due("28 n 1001", x.stop(1001, 0), -1);
        due("28 n 0", x.stop(0, 0), -1);
        due("28 i -1", x.stop(1, -1), -1);
        due("28 i far below", x.stop(1, LOW), -1);
        x.plan(false);
        due("28 none is stopped", x.stop(1000, 0), -9);
    }

    private static void promise29() {
        LeastRights x = new LeastRights();
        due("29 none", x.used(0, 0), -1);
        x.person(0, 1);
        x.person(0, 2048);
        x.later(9);
        x.use(1, 11, 4);
        x.use(0, 0, 9);
        due("29 who", x.used(0, 0), 1);
        due("29 what", x.used(0, 1), 11);
        due("29 when", x.used(0, 2), 5);
        due("29 who next", x.used(1, 0), 0);
        due("29 what next", x.used(1, 1), 0);
        due("29 when next", x.used(1, 2), 0);
        due("29 use 2", x.used(2, 0), -1);
        due("29 use -1", x.used(-1, 0), -1);
        due("29 what 3", x.used(0, 3), -1);
        due("29 what -1", x.used(0, -1), -1);
    }

    private static void promise30() {
        LeastRights x = new LeastRights();
        due("30 no plan", x.apply(), -4);
        x.person(0, 7);
        x.person(0, 8);
        x.plan(false);
        x.takeOut(0, 1);
        x.change(0, 1, 11);
        x.later(5);
        due("30 two go", x.apply(), 2);
        due("30 has the plan", x.told(0, 1), 5);
        due("30 struck", x.told(0, 3), 10);
        due("30 the other one", x.told(1, 1), 8);
        due("30 none go again", x.apply(), 0);
        x.later(60);
        due("30 struck as it was applied", x.ask(0, 1), 1);
        x.strike(1);
        due("30 struck by hand", x.told(1, 3), 8);
        due("30 what came back goes again", x.apply(), 1);
        due("30 what the plan gives is had", x.told(1, 1), 8);
        due("30 and struck still", x.told(1, 3), 8);
        x.person(0, 1);
        due("30 one came since", x.apply(), -4);
        due("30 refused changes nothing", x.told(0, 1), 5);
        x.plan(false);
        due("30 a new plan", x.apply(), 0);
    }

    private static void promise31() {
        LeastRights x = new LeastRights();
        x.person(0, 9);
        due("31 none", x.sheet(0, 0), 0);
        due("31 all", x.sheet(3, 10), 10);
        x.save(3);
        due("31 again", x.sheet(3, 2), 2);
        due("31 it is 0", x.load(3, 0, 0), 1);
        due("31 nothing had", x.told(0, 1), 0);
        due("31 its place 2", x.load(3, 2, 0), -3);
        due("31 n 11", x.sheet(0, 11), -1);
        due("31 sheet 4", x.sheet(4, 1), -1);
        due("31 sheet -1", x.sheet(-1, 1), -1);
        due("31 n -1", x.sheet(0, -1), -3);
        due("31 size", x.finding(), 4);
        due("31 bad before size", x.sheet(4, -1), -1);
        due("31 far below", x.sheet(0, LOW), -3);
        due("31 size twice", x.findings(4), 2);
    }

    private static void promise32() {
        LeastRights x = new LeastRights();
        due("32 missing", x.save(0), -3);
        due("32 nothing", x.finding(), 1);
        due("32 sheet 4", x.save(4), -1);
        due("32 sheet -1", x.save(-1), -1);
        x.sheet(0, 2);
        x.sheet(1, 3);
        due("32 nobody", x.save(0), 0);
        x.person(0, 1);
        due("32 fewer people than room", x.save(0), 1);
        x.person(0, 2);
        x.person(0, 4);
        due("32 more people than room", x.save(0), 2);
        due("32 as many", x.save(1), 3);
        x.sheet(2, 0);
        due("32 no room", x.save(2), 0);
        x.load(0, 1, 0);
        due("32 the second one's", x.told(0, 1), 2);
        x.load(1, 2, 0);
        due("32 the third one's", x.told(0, 1), 4);
    }

    private static void promise33() {
        LeastRights x = new LeastRights();
        due("33 nobody", x.load(0, 0, 0), -1);
        x.person(0, 6);
        due("33 missing", x.load(0, 0, 0), -3);
        due("33 nothing", x.finding(), 1);
        due("33 nothing before beyond", x.load(0, -1, 0), -3);
        due("33 still nothing", x.findings(1), 2);
        x.sheet(0, 2);
        x.save(0);
        x.strike(0);
        due("33 struck", x.told(0, 3), 6);
        due("33 load", x.load(0, 0, 0), 1);
        due("33 has them", x.told(0, 1), 6);
        due("33 struck no more", x.told(0, 3), 0);
        due("33 the next place", x.load(0, 1, 0), 1);
        due("33 has none", x.told(0, 1), 0);
        due("33 what goes so is not struck", x.told(0, 3), 0);
        due("33 place 2", x.load(0, 2, 0), -3);
        due("33 beyond", x.finding(), 2);
        due("33 place -1", x.load(0, -1, 0), -3);
        due("33 far", x.load(0, HIGH, 0), -3);
        due("33 three beyond", x.findings(2), 3);
        due("33 sheet 4", x.load(4, 0, 0), -1);
        due("33 sheet -1", x.load(-1, 0, 0), -1);
        due("33 person 1", x.load(0, 0, 1), -1);
        due("33 bad before beyond", x.load(0, 9, 1), -1);
        due("33 person -1", x.load(0, 0, -1), -1);
    }

    private static void promise34() {
        LeastRights x = new LeastRights();
        due("34 missing", x.tear(0), -3);
        due("34 nothing", x.finding(), 1);
        x.sheet(0, 0);
        x.sheet(1, 4);
        due("34 an empty one", x.tear(0), 1);
        due("34 torn", x.tear(0), -3);
        due("34 the other one", x.tear(1), 1);
        due("34 sheet 4", x.tear(4), -1);
        due("34 sheet -1", x.tear(-1), -1);
        due("34 back", x.sheet(1, 4), 4);
        due("34 and torn again", x.tear(1), 1);
    }

    /** Sheet 0 with 1, 2, 4, 8, 16; sheet 1 with three times 0. */
    private static LeastRights sheets() {
        LeastRights x = new LeastRights();
        for (int p = 0; p < 5; p++) x.person(0, 1 << p);
        x.sheet(0, 5);
        x.sheet(1, 3);
        x.save(0);
        return x;
    }

    private static void sheetIs(String what, LeastRights x, int s, int... ints) {
        for (int i = 0; i < ints.length; i++) {
            x.load(s, i, 0);
            due(what + " at " + i, x.told(0, 1), ints[i]);
        }
        due(what + " has no more", x.load(s, ints.length, 0), -3);
    }

    private static void promise35() {
        LeastRights x = sheets();
        due("35 to another one", x.copy(0, 2, 1, 1, 2), 1);
        sheetIs("35 another one", x, 1, 0, 4, 8);
        sheetIs("35 from", x, 0, 1, 2, 4, 8, 16);
        due("35 ahead in itself", x.copy(0, 0, 0, 1, 4), 1);
        sheetIs("35 ahead in itself", x, 0, 1, 1, 2, 4, 8);
        due("35 back in itself", x.copy(0, 2, 0, 0, 3), 1);
        sheetIs("35 back in itself", x, 0, 2, 4, 8, 4, 8);
        due("35 all of it", x.copy(1, 0, 0, 2, 3), 1);
        sheetIs("35 all of it", x, 0, 2, 4, 0, 4, 8);
        due("35 none", x.copy(0, 0, 1, 0, 0), 1);
        due("35 none at the end", x.copy(0, 5, 1, 3, 0), 1);
        sheetIs("35 none", x, 1, 0, 4, 8);
    }

    private static void promise35Refused() {
        LeastRights x = sheets();
        due("35 sheet 4", x.copy(4, 0, 0, 0, 1), -1);
        due("35 to sheet 4", x.copy(0, 0, 4, 0, 1), -1);
        due("35 sheet -1", x.copy(-1, 0, 0, 0, -1), -1);
        due("35 to sheet -1", x.copy(0, 0, -1, 0, 1), -1);
        due("35 no finding yet", x.finding(), 0);
        int[][] beyond = {{0, 4, 1, 0, 2}, {0, 0, 1, 2, 2}, {0, -1, 1, 0, 1}, {0, 0, 1, -1, 1},
            {0, 6, 1, 0, 0}, {0, 0, 1, 4, 0}, {0, HIGH, 1, 0, 1}, {0, 1, 1, 0, HIGH}, {0, 0, 1, HIGH, HIGH}};
        for (int k = 0; k < beyond.length; k++) {
            int[] a = beyond[k];
            due("35 beyond, case " + k, x.copy(a[0], a[1], a[2], a[3], a[4]), -3);
            due("35 beyond, finding " + k, x.finding(), 2);
            due("35 beyond, times " + k, x.findings(2), k + 1);
        }
        due("35 missing", x.copy(2, 0, 0, 0, 1), -3);
        due("35 nothing", x.finding(), 1);
        due("35 to a missing one", x.copy(0, 9, 3, 0, 1), -3);
        due("35 nothing before beyond", x.findings(1), 2);
        due("35 n -1", x.copy(0, 0, 1, 0, -1), -3);
        due("35 size", x.finding(), 4);
        due("35 n far below, of a missing one", x.copy(2, -1, 3, -1, LOW), -3);
        due("35 size before nothing", x.findings(4), 2);
        sheetIs("35 refused changes nothing", x, 1, 0, 0, 0);
    }

    private static void promise36() {
        LeastRights x = new LeastRights();
        due("36 before", x.asked(), 0);
        x.marksOf(0);
        due("36 after one refused", x.asked(), 0);
        x.person(1, 1);
        x.person(1, 0);
        x.person(1, 2);
        x.marksOf(0);
        due("36 one", x.asked(), 1);
        x.marksOf(12);
        due("36 after a bad one", x.asked(), 1);
        x.exceptions(3, 0);
        due("36 not by exceptions()", x.asked(), 1);
        x.marksOf(3);
        due("36 none", x.asked(), 0);
    }

    private static void promise37() {
        LeastRights x = new LeastRights();
        x.person(0, 7);
        x.person(0, 24);
        x.person(0, 0);
        x.later(12);
        x.use(0, 0, 0);
        x.use(0, 0, 0);
        x.use(1, 3, 5);
        x.use(1, 3, 12);
        x.standby(2);
        x.ban(0, 1, true);
        x.ban(0, 2, true);
        due("37 people", x.count(0), 3);
        due("37 day", x.count(1), 12);
        due("37 uses", x.count(2), 4);
        due("37 holdings", x.count(3), 5);
        due("37 kept", x.count(4), 3);
        due("37 pairs", x.count(5), 2);
        due("37 what 6", x.count(6), -1);
        due("37 what -1", x.count(-1), -1);
        due("37 far", x.count(HIGH), -1);
    }

    private static void promise38() {
        LeastRights x = new LeastRights();
        due("38 before", x.finding(), 0);
        x.tear(0);
        due("38 nothing", x.finding(), 1);
        x.sheet(0, -1);
        due("38 size", x.finding(), 4);
        x.sheet(0, 1);
        due("38 stays", x.finding(), 4);
        x.copy(0, 0, 0, 1, 1);
        due("38 beyond", x.finding(), 2);
        x.person(0, 1);
        x.uses(0, 0, 1);
        due("38 unlike", x.finding(), 3);
        x.tear(9);
        x.kind(0, 1);
        due("38 others are no findings", x.finding(), 3);
    }

    private static void promise39() {
        LeastRights x = new LeastRights();
        x.person(0, 1);
        x.tear(0);
        x.save(0);
        x.load(0, 0, 0);
        x.copy(0, 0, 0, 0, 0);
        x.sheet(0, -1);
        x.sheet(0, 0);
        x.load(0, 0, 0);
        x.copy(0, 1, 0, 0, 0);
        x.uses(0, 0, 2);
        due("39 nothing", x.findings(1), 4);
        due("39 beyond", x.findings(2), 2);
        due("39 unlike", x.findings(3), 1);
        due("39 size", x.findings(4), 1);
        due("39 f 0", x.findings(0), -1);
        due("39 f 5", x.findings(5), -1);
        due("39 f -1", x.findings(-1), -1);
        due("39 far", x.findings(LOW), -1);
    }

    private static long hash(long... values) {
        long h = 17;
        for (long v : values) h = 31 * h + v;
        return h;
    }

    private static void promise40() {
        LeastRights x = new LeastRights();
        due("40 new", x.digest(), hash(0, 0, 0, 0, 0, 0, 0, 0, 0, 0, 0, 0, 0, 0, -1, -1, -1, -1));
        x.person(5, 7);
        x.person(6, 8);
        x.later(4);
        x.use(0, 1, 3);
        x.standby(4);
        x.strike(0);
        x.ban(0, 11, true);
        x.ban(0, 2, true);
        x.sheet(1, 3);
        x.save(1);
        x.sheet(2, 0);
        due("40 all", x.digest(), hash(
            5, 6, 6, 1, 1,
            6, 8, 0, 0, 0,
            4, 4,
            0, 1, 1,
            2052, 0, 1, 0, 0, 0, 0, 0, 0, 0, 0, 1,
            -1, 3, 6, 8, 0, 0, -1));
        x.tear(1);
        due("40 less", x.digest(), hash(
            5, 6, 6, 1, 1,
            6, 8, 0, 0, 0,
            4, 4,
            0, 1, 1,
            2052, 0, 1, 0, 0, 0, 0, 0, 0, 0, 0, 1,
            -1, -1, 0, -1));
    }

    private static void refusedChangesNothing() {
        LeastRights x = planned();
        x.sheet(0, 2);
        x.ban(0, 1, true);
        x.strike(0);
        long before = x.digest();
        int[] wrong = {LOW, -1, 256, 4096, HIGH};
        for (int w : wrong) {
            x.person(w, 0);
            x.person(0, w == 256 ? -7 : w);
            x.change(w, 1, 0);
            x.change(0, w, 0);
            x.change(0, 0, w);
            x.standby(w == 256 ? -7 : w);
            x.later(w == 256 ? -7 : w);
            x.use(w, 0, 0);
            x.use(0, w, 0);
            x.use(0, 0, w);
            x.strike(w);
            x.ask(w, 0);
            x.ask(0, w);
            x.ban(w, 0, true);
            x.ban(0, w, false);
            x.sheet(w, 1);
            x.sheet(0, w);
            x.save(w);
            x.tear(w);
            x.load(0, w, 0);
            x.load(w, 0, 0);
            x.copy(0, w, 0, 0, 1);
            x.copy(0, 0, 0, w, 1);
            x.copy(0, 0, 0, 1, w);
        }
        due("refused calls change nothing", x.digest(), before);
    }
}
