import java.util.ArrayList;
import java.util.List;

/** What an object answers as a whole, to compare it before and behind a call. */
final class Whole {
    private final List<String> asked = new ArrayList<>();
    private final List<Long> answers = new ArrayList<>();
    private final WhoseWave x;

    private Whole(WhoseWave x) {
        this.x = x;
    }

    private void add(String call, long answer) {
        asked.add(call);
        answers.add(answer);
    }

    /** Some answers by hand. */
    static Whole of(String name, int... some) {
        Whole all = new Whole(null);
        for (int i = 0; i < some.length; i++) {
            all.add(name + " " + i, some[i]);
        }
        return all;
    }

    /** By questions alone, none of which may change anything: some 200 calls. */
    static Whole asked(WhoseWave x) {
        Whole all = new Whole(x);
        for (int i = 0; i < 14; i++) {
            all.add("count(" + i + ")", x.count(i));
        }
        all.surfers();
        all.waves();
        all.choices();
        all.runs();
        return all;
    }

    private void surfers() {
        for (int s = 0; s < 3; s++) {
            for (int what = 0; what < 6; what++) {
                add("look(" + s + ", " + what + ")", Due.look(x, s, what));
            }
            add("named(" + s + ")", x.named((1 + s) << 25));
            add("best(" + s + ")", x.best(s));
            add("seat(" + s + ", 3)", x.seat(s, 3));
            add("plan(" + s + ")", x.plan(s));
            add("planned(" + s + ", 0)", x.planned(s, 0));
            add("over(" + s + ")", x.over(s));
            add("give(0, " + s + ", 2)", x.give(0, s, 2));
            add("deeper(0, " + s + ")", x.deeper(0, s));
        }
        for (int d = 0; d < 13; d += 3) {
            add("locals(" + d + ")", x.locals(d));
        }
    }

    private void waves() {
        for (int w = 0; w < 7; w++) {
            for (int what = 0; what < 5; what++) {
                add("wave(" + w + ", " + what + ")", x.wave(w, what));
            }
            add("odds(1, " + w + ", 2)", x.odds(1, w, 2));
            add("law(0, 1, " + w + ")", x.law(0, 1, w));
            add("order(" + w + ", 0)", x.order(w, 0));
            add("order(" + w + ", 1)", x.order(w, 1));
        }
        add("law(1, 1, 1)", x.law(1, 1, 1));
        add("law(2, 0, 0)", x.law(2, 0, 0));
        for (int minute = 0; minute < 200; minute += 33) {
            add("peak(" + minute + ")", x.peak(minute));
        }
        add("next()", x.next());
        for (int k = 1; k < 4; k++) {
            add("rank(" + k + ", 0)", x.rank(k, 0));
            add("rank(" + k + ", 1)", x.rank(k, 1));
            add("gaps(" + k + ", 0)", x.gaps(k, 0));
        }
    }

    private void choices() {
        add("rests(0, 1)", x.rests(0, 1));
        add("rest(0, 1, 0)", x.rest(0, 1, 0));
        add("rests(2, 1)", x.rests(2, 1));
        add("rest(2, 1, 0)", x.rest(2, 1, 0));
        add("go(0, 6, 3)", x.go(0, 6, 3));
        add("go(1, 6, 3)", x.go(1, 6, 3));
        add("shares(0)", x.shares(0));
        add("shares(1)", x.shares(1));
    }

    private void runs() {
        for (int rule = 0; rule < 4; rule++) {
            for (int what = 0; what < 8; what += rule == 0 ? 1 : 5) {
                add("table(" + rule + ", 7, " + what + ")", x.table(rule, 7, what));
            }
        }
        add("fairest(7)", x.fairest(7));
        add("chance(7, 1, 1)", x.chance(7, 1, 1));
        for (int what = 0; what < 5; what++) {
            add("tried(" + what + ", 0, 7)", x.tried(what, 0, 7));
        }
    }

    /** By calls that bring out what questions can't: the TAPE, what is undone, the numbers to come, the IMAGE, NOTES to come. Some 90 calls. */
    static Whole driven(WhoseWave x) {
        Whole all = new Whole(x);
        all.add("feed", x.feed(0x20202020, 0x20202020, 0x20202020, 0x20202020, 0x20202020));
        for (int i = 0; i < 3; i++) {
            all.add("undo()", x.undo());
            all.standing();
        }
        all.add("note(1, 2, 2)", x.note(1, 2, 2));
        all.add("locals(12)", x.locals(12));
        all.add("count(12)", x.count(12));
        all.add("minutes(7)", x.minutes(7));
        all.standing();
        all.taken();
        all.add("back()", x.back());
        all.standing();
        all.add("minutes(13)", x.minutes(13));
        all.taken();
        all.add("text(20)", x.text(20));
        all.add("fault(0)", x.fault(0));
        all.add("fault(1)", x.fault(1));
        all.add("count(0)", x.count(0));
        all.add("peak(0)", x.peak(0));
        return all;
    }

    private void standing() {
        add("count(6)", x.count(6));
        add("count(7)", x.count(7));
        add("count(13)", x.count(13));
        for (int s = 0; s < 3; s++) {
            add("look(" + s + ", 0)", Due.look(x, s, 0));
            add("look(" + s + ", 4)", Due.look(x, s, 4));
        }
    }

    private void taken() {
        add("count(8)", x.count(8));
        add("count(9)", x.count(9));
        for (int w = 0; w < 7; w++) {
            add("wave(" + w + ", 4)", x.wave(w, 4));
        }
    }

    void mustBe(Due due, Whole wanted) {
        due.is("how many answers", answers.size(), wanted.answers.size());
        for (int i = 0; i < answers.size(); i++) {
            due.is("then " + asked.get(i), answers.get(i), wanted.answers.get(i));
        }
    }

    boolean isLike(Whole other) {
        return answers.equals(other.answers);
    }

    int calls() {
        return answers.size();
    }
}
