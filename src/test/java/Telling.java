import java.util.ArrayList;
import java.util.List;

/** All that an object tells, as a row of texts, one for each call. */
final class Telling {
    private final LeastRights x;
    private final List<String> row = new ArrayList<>();
    private final int people;

    Telling(LeastRights x) {
        this.x = x;
        this.people = x.count(0);
    }

    List<String> row() {
        return row;
    }

    private void note(String call, long answer) {
        row.add(call + " = " + answer);
    }

    /** What calls tell that change nothing, all but finding() and findings(). */
    Telling now() {
        for (int what = 0; what <= 5; what++) note("count " + what, x.count(what));
        for (int what = 0; what <= 2; what++) note("asks " + what, x.asks(what));
        for (int p = 0; p < people; p++) ofPerson(p);
        ofRoles();
        note("asked", x.asked());
        note("exceptions", x.exceptions(1, 1));
        note("breach", x.breach());
        note("stopped today", x.stopped(1));
        note("stopped", x.stopped(1000));
        note("stop", x.stop(1000, 0));
        note("used", x.used(0, 0));
        note("digest", x.digest());
        return this;
    }

    private void ofPerson(int p) {
        for (int what = 0; what <= 4; what++) note("told " + p + " " + what, x.told(p, what));
        for (int r = 0; r < 12; r += people > 4 ? 5 : 1) note("kind " + p + " " + r, x.kind(p, r));
        note("rolesOf " + p, x.rolesOf(p));
        note("least " + p, x.least(p));
    }

    private void ofRoles() {
        note("candidates", x.candidates());
        note("tries", x.tries());
        for (int i = 0; i < 5; i++) note("role " + i, x.role(i));
        note("badRole", x.badRole());
    }

    /** What can only be told by going on: the plan, the span, the season and the grace. */
    Telling onward() {
        for (int p = 0; p < people; p++) {
            for (int r = 0; r < 12; r += people > 4 ? 5 : 1) note("takeOut " + p + " " + r, x.takeOut(p, r));
        }
        int[] days = {5, 1, 4, 1, 3, 1};
        for (int d = 0; d < days.length; d++) {
            note("later " + days[d], x.later(days[d]));
            for (int p = 0; p < people; p++) note("kept of " + p, x.told(p, 2));
            note("ask for " + (3 + d), x.ask(0, 3 + d));
        }
        note("standby", x.standby(0));
        note("apply", x.apply());
        note("digest after apply", x.digest());
        return this;
    }
}
