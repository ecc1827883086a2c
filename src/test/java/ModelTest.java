import java.util.Random;

/** Long runs of calls, right and wrong ones, on the class and on the model: their answers are the same. */
public final class ModelTest {
    private static final int[] WRONG = {-1, -2, 10, 11, 12, 13, 255, 256, 400, 999, 1000, 1001, 4096, 20001,
        Integer.MIN_VALUE, Integer.MAX_VALUE};
    private static final int RUNS = 240, CALLS = 512;

    private final Due due;
    private final Random random;
    private final String run;
    private final LeastRights x = new LeastRights();
    private final Model m = new Model();

    private ModelTest(Due due, int run) {
        this.due = due;
        this.random = new Random(run);
        this.run = "run " + run + ": ";
    }

    public static void main(String[] args) {
        Due due = new Due();
        for (int run = 0; run < RUNS && due.wrong() == 0; run++) {
            ModelTest test = new ModelTest(due, run);
            test.walk(run % 6);
        }
        due.end("ModelTest");
    }

    /** Each sort of run leans to other calls, so that each part of the class sees full and long states. */
    private void walk(int sort) {
        int calls = 0;
        if (sort == 1 || sort == 2) calls += crowd(sort == 2);
        if (sort == 3) calls += manyUses();
        for (; calls < CALLS && due.wrong() == 0; calls++) {
            int call = random.nextInt(40);
            if (sort == 4 && random.nextInt(2) == 0) call = 24 + random.nextInt(6);
            if (sort == 5 && random.nextInt(2) == 0) call = 30 + random.nextInt(5);
            if (sort == 2 && random.nextInt(2) == 0) call = 13 + random.nextInt(5);
            one(call);
        }
    }

    private int crowd(boolean alike) {
        same("standby", x.standby(4095), m.standby(4095));
        int people = 4 + random.nextInt(7);
        for (int p = 0; p < people; p++) {
            int rights = random.nextInt(4096);
            if (alike) rights = 4095 & ~(1 << random.nextInt(12)) & ~(1 << random.nextInt(12));
            int marks = random.nextInt(256);
            same("person", x.person(marks, rights), m.person(marks, rights));
        }
        return people + 1;
    }

    private int manyUses() {
        same("person", x.person(3, 4095), m.person(3, 4095));
        same("person", x.person(5, 4095), m.person(5, 4095));
        for (int u = 0; u < 398; u++) {
            int p = random.nextInt(2);
            int right = random.nextInt(9);
            same("use", x.use(p, right, 0), m.use(p, right, 0));
            if (u % 8 == 0) same("later", x.later(3), m.later(3));
        }
        return 400 + 50;
    }

    private void same(String call, long got, long want) {
        due.is(run + call, got, want);
    }

    private int some(int below) {
        if (random.nextInt(14) == 0) return WRONG[random.nextInt(WRONG.length)];
        return random.nextInt(Math.max(1, below));
    }

    private int person() {
        return some(m.count(0));
    }

    private int right() {
        return some(12);
    }

    private int rights() {
        int bits = some(4096);
        return random.nextInt(3) == 0 ? bits & 15 : bits;
    }

    private void one(int call) {
        if (call < 13) onPeople(call);
        else if (call < 24) onRoles(call);
        else if (call < 35) onPlans(call);
        else onTold(call);
    }

    private void onPeople(int call) {
        int p = person();
        int r = right();
        int b = rights();
        int n = some(4);
        int days = random.nextInt(3) == 0 ? some(m.count(1) + 1) : some(12);
        switch (call) {
            case 0 -> same("person " + b, x.person(b & 511, b), m.person(b & 511, b));
            case 1 -> same("change " + p + " " + n + " " + b, x.change(p, n, b), m.change(p, n, b));
            case 2 -> same("told " + p + " " + n, x.told(p, n + 1), m.told(p, n + 1));
            case 3 -> same("standby " + b, x.standby(b), m.standby(b));
            case 4 -> onRule();
            case 5 -> same("later " + days, x.later(days), m.later(days));
            case 6, 7 -> same("use " + p + " " + r + " " + days, x.use(p, r, days), m.use(p, r, days));
            case 8 -> same("kind " + p + " " + r, x.kind(p, r), m.kind(p, r));
            case 9 -> same("uses " + p + " " + r + " " + n, x.uses(p, r, n), m.uses(p, r, n));
            case 10 -> same("strike " + p, x.strike(p), m.strike(p));
            case 11 -> same("ask " + p + " " + r, x.ask(p, r), m.ask(p, r));
            default -> same("asks " + n, x.asks(n), m.asks(n));
        }
    }

    private void onRule() {
        int span = some(random.nextInt(4) == 0 ? 1000 : 20);
        int season = some(random.nextInt(4) == 0 ? 1000 : 60);
        int grace = some(random.nextInt(4) == 0 ? 1000 : 20);
        same("rule " + span + " " + season + " " + grace, x.rule(span, season, grace), m.rule(span, season, grace));
    }

    private void onRoles(int call) {
        int p = person();
        int r = right();
        int b = right();
        int marks = some(256);
        int n = random.nextInt(2) == 0 ? some(30) : some(3000);
        int i = some(5);
        boolean is = random.nextInt(3) != 0;
        switch (call) {
            case 13 -> same("candidates", x.candidates(), m.candidates());
            case 14 -> same("roles " + n, x.roles(n), m.roles(n));
            case 15 -> same("tries", x.tries(), m.tries());
            case 16 -> same("role " + i, x.role(i), m.role(i));
            case 17 -> same("rolesOf " + p, x.rolesOf(p), m.rolesOf(p));
            case 18 -> same("marksOf " + r, x.marksOf(r), m.marksOf(r));
            case 19 -> same("exceptions " + r + " " + marks, x.exceptions(r, marks), m.exceptions(r, marks));
            case 20 -> same("ban " + r + " " + b + " " + is, x.ban(r, b, is), m.ban(r, b, is));
            case 21 -> same("breach", x.breach(), m.breach());
            case 22 -> same("least " + p, x.least(p), m.least(p));
            default -> same("badRole", x.badRole(), m.badRole());
        }
    }

    private void onPlans(int call) {
        int p = person();
        int r = right();
        int s = some(4);
        int to = some(4);
        int i = some(8);
        int j = some(8);
        int n = some(6);
        int days = some(30);
        int u = some(m.count(2));
        boolean keep = random.nextBoolean();
        switch (call) {
            case 24 -> same("plan " + keep, x.plan(keep), m.plan(keep));
            case 25 -> same("takeOut " + p + " " + r, x.takeOut(p, r), m.takeOut(p, r));
            case 26 -> same("stopped " + days, x.stopped(days), m.stopped(days));
            case 27 -> same("stop " + days + " " + u, x.stop(days, u), m.stop(days, u));
            case 28 -> same("used " + u + " " + s, x.used(u, s), m.used(u, s));
            case 29 -> same("apply", x.apply(), m.apply());
            case 30 -> same("sheet " + s + " " + i, x.sheet(s, i + to), m.sheet(s, i + to));
            case 31 -> same("save " + s, x.save(s), m.save(s));
            case 32 -> same("load " + s + " " + i + " " + p, x.load(s, i, p), m.load(s, i, p));
            case 33 -> same("tear " + s, n == 0 ? x.tear(s) : 0, n == 0 ? m.tear(s) : 0);
            default -> same("copy " + s + " " + i + " " + to + " " + j + " " + n,
                x.copy(s, i, to, j, n), m.copy(s, i, to, j, n));
        }
    }

    private void onTold(int call) {
        int what = some(6);
        switch (call) {
            case 35 -> same("asked", x.asked(), m.asked());
            case 36 -> same("count " + what, x.count(what), m.count(what));
            case 37 -> same("finding", x.finding(), m.finding());
            case 38 -> same("findings " + what, x.findings(what), m.findings(what));
            default -> same("digest", x.digest(), m.digest());
        }
    }
}
