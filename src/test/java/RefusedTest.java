import java.util.ArrayList;
import java.util.List;

/** A call that is refused changes nothing: what all other calls answer is the same before and behind it. */
public final class RefusedTest {
    private static final int BIG = Integer.MAX_VALUE;
    private static final int LOW = Integer.MIN_VALUE;
    private static final Due due = new Due();

    private interface Scene {
        WhoseWave make();
    }

    private interface Call {
        long on(WhoseWave x);
    }

    private static final String TEXT = "sea 5 4;peak 1 1;surfer a 1 1 3 2 20 60;surfer b 2 1 5 1 40 30;surfer c 4 3 9 3 0 0;"
        + "set 0 4 7 5;set 6 3 9;set 12 1 2;bank 2 3 6;rule each;seed 77;law catch 100 - far * 15;law drift minute / 4;law away 9;";

    // a is AWAY, b has no STROKES left, c sits in a corner with some left; four NOTES; three to undo; an IMAGE of a MINUTE ago.
    private static WhoseWave emptyTape() {
        WhoseWave x = due.told(TEXT);
        x.rule(1);
        x.keep();
        x.minutes(1);
        x.note(0, 0, 6);
        x.note(5, 1, 7);
        x.note(3, 2, 1);
        x.strike(2);
        x.known(3);
        x.stroke(1, 1);
        x.stroke(2, 3);
        x.stroke(2, 1);
        x.rule(0);
        return x;
    }

    private static WhoseWave busy() {
        WhoseWave x = emptyTape();
        Due.feed(x, "sea 3 3;peak 1 1;");
        return x;
    }

    private static WhoseWave fullTape() {
        WhoseWave x = due.told("surfer a 0 0 1 1 0 0;set 0 1;");
        Due.feed(x, "sea 3 3;peak 1 1;");
        for (int i = 1; i < 35; i++) {
            x.feed(0, 0, 0, 0, 0);
        }
        return x;
    }

    private static WhoseWave fullNotes() {
        WhoseWave x = due.told(TEXT);
        for (int i = 0; i < 24; i++) {
            due.is("a NOTE of 24", i % 5 == 4 ? x.strike(i - 3) : x.note(i % 13, i % 3, i % 20), i);
        }
        return x;
    }

    private static WhoseWave atMinute(int minute) {
        WhoseWave x = due.told(TEXT);
        x.minutes(2);
        x.keep();
        x.minutes(Math.min(99, minute - 2));
        x.minutes(Math.max(0, minute - 101));
        x.stroke(0, 1);
        x.rule(3);
        due.is("which MINUTE", x.count(6), minute);
        return x;
    }

    private static WhoseWave plain() {
        return due.told(TEXT);
    }

    private static WhoseWave anew() {
        return new WhoseWave();
    }

    private static void refuse(Scene scene, String call, Call refused, long want) {
        due.in(call);
        WhoseWave x = scene.make();
        Whole before = Whole.asked(x);
        int fault = x.fault(0);
        int place = x.fault(1);
        due.is("it", refused.on(x), want);
        due.is("fault(0) behind it", x.fault(0), fault);
        due.is("fault(1) behind it", x.fault(1), place);
        Whole.asked(x).mustBe(due, before);
        Whole.driven(x).mustBe(due, Whole.driven(scene.make()));
    }

    // ---- the scene itself: what is refused below is refused for the reason that is told
    private static void scene() {
        due.in("the scene");
        WhoseWave x = busy();
        due.that("a is AWAY", x.look(0, 3) > 1);
        due.is("b is IN", x.look(1, 3), 0);
        due.is("b has no STROKES left", x.look(1, 4), 0);
        due.is("c sits in the corner", x.look(2, 0), 19);
        due.is("c has STROKES left", x.look(2, 4), 1);
        due.is("NOTES", x.count(11), 4);
        due.is("KNOWN", x.count(12), 3);
        due.is("to undo", x.count(13), 4);
        Whole once = Whole.asked(x);
        Whole.asked(x).mustBe(due, once);
        due.that("within 512 calls", 40 + 2 * once.calls() + Whole.driven(x).calls() < 512);
        due.that("another MINUTE is seen", !once.isLike(Whole.asked(atMinute(3))));
        due.that("what isn't undone is seen", !Whole.driven(busy()).isLike(Whole.driven(emptyTape())));
    }

    private static void tapeAndText() {
        refuse(RefusedTest::fullTape, "feed beyond 700", x -> x.feed(0x73656120, 0x3120313b, 0, 0, 0), -1);
        int[] wrong = {-1, 21, LOW, BIG, 700, 701};
        for (int n : wrong) {
            refuse(RefusedTest::busy, "text(" + n + ")", x -> x.text(n), -2);
        }
        refuse(RefusedTest::emptyTape, "text(1) of none", x -> x.text(1), -2);
        refuse(RefusedTest::fullTape, "text(701)", x -> x.text(701), -2);
        refuse(RefusedTest::busy, "fault(2)", x -> x.fault(2), -1);
        refuse(RefusedTest::busy, "fault(-1)", x -> x.fault(-1), -1);
        refuse(RefusedTest::busy, "named(0)", x -> x.named(0), -1);
    }

    // "NONE with a FAULT, all stays": what stands ahead of the FAULT in the refused text is not taken either.
    private static void faults() {
        String ahead = "sea 2 2;peak 1 1;surfer z 0 0 1 1 0 0;set 50 9;bank 1 1 1;rule out;seed 9;law catch 1;law drift 1;law away 1;";
        String[] ends = {"#", "sea", "set 60", "surfer y 2 0 1 1 0 0;", "seed 1;", "set 50 1;", ";", "surfer z 0 0 1 1 0 0;"};
        int[] kinds = {1, 3, 1, 2, 3, 5, 1, 3};
        int[] places = {0, 0, 6, 9, 0, 4, 0, 7};
        for (int i = 0; i < ends.length; i++) {
            refuseText(ahead + ends[i], kinds[i], ahead.length() + places[i]);
        }
        refuseText("peak 1 1;sea 2 2;", 4, 9);
        refuseText("law catch 1/", 1, 12);
    }

    private static void refuseText(String text, int kind, int place) {
        due.in(text);
        WhoseWave x = emptyTape();
        Whole before = Whole.asked(x);
        due.is("text", Due.tell(x, text), -1);
        due.is("fault(0)", x.fault(0), kind);
        due.is("fault(1)", x.fault(1), place);
        Whole.asked(x).mustBe(due, before);
        Whole.driven(x).mustBe(due, Whole.driven(emptyTape()));
    }

    private static void ofSurfersAndWaves() {
        List<Call> calls = new ArrayList<>();
        int[] noSurfers = {-1, 3, 5, LOW, BIG};
        for (int s : noSurfers) {
            refuse(RefusedTest::busy, "look(" + s + ", 0)", x -> Due.look(x, s, 0), 1000);
            calls.add(x -> x.odds(s, 0, 0));
            calls.add(x -> x.stroke(s, 0));
            calls.add(x -> x.deeper(s, 0));
            calls.add(x -> x.deeper(0, s));
            calls.add(x -> x.seat(s, 0));
            calls.add(x -> x.best(s));
            calls.add(x -> x.rests(s, 0));
            calls.add(x -> x.rest(0, s, 0));
            calls.add(x -> x.plan(s));
            calls.add(x -> x.planned(s, 0));
            calls.add(x -> x.go(s, 6, 0));
            calls.add(x -> x.give(0, s, 1));
            calls.add(x -> x.over(s));
            calls.add(x -> x.note(0, s, 0));
            calls.add(x -> x.chance(0, s, 0));
            calls.add(x -> x.tried(1, s, 0));
            calls.add(x -> x.tried(4, s, 0));
        }
        int[] noCells = {-1, 20, 48, LOW, BIG};
        for (int c : noCells) {
            calls.add(x -> x.odds(0, 0, c));
            calls.add(x -> x.seat(0, c));
            calls.add(x -> x.note(0, 0, c));
        }
        int[] noWaves = {-1, 7, 28, LOW, BIG};
        for (int w : noWaves) {
            refuse(RefusedTest::busy, "wave(" + w + ", 0)", x -> x.wave(w, 0), -4);
            refuse(RefusedTest::busy, "law(0, 0, " + w + ")", x -> x.law(0, 0, w), Long.MIN_VALUE);
            calls.add(x -> x.odds(0, w, 0));
            calls.add(x -> x.order(w, 0));
            calls.add(x -> x.go(0, w, 0));
        }
        calls.add(x -> x.order(0, 0));
        calls.add(x -> x.go(1, 0, 0));
        for (int i = 0; i < calls.size(); i++) {
            refuse(RefusedTest::busy, "no such SURFER, CELL, WAVE: the call numbered " + i, calls.get(i), -1);
        }
    }

    private static void strokesAndRules() {
        refuse(RefusedTest::busy, "look(0, 6)", x -> Due.look(x, 0, 6), 2000);
        refuse(RefusedTest::busy, "look(0, -1)", x -> Due.look(x, 0, -1), 2000);
        refuse(RefusedTest::busy, "wave(0, 5)", x -> x.wave(0, 5), -4);
        refuse(RefusedTest::busy, "law(3, 0, 0)", x -> x.law(3, 0, 0), Long.MIN_VALUE);
        refuse(RefusedTest::busy, "a STROKE of one who is AWAY", x -> x.stroke(0, 1), -2);
        refuse(RefusedTest::busy, "a STROKE without any left", x -> x.stroke(1, 0), -2);
        refuse(RefusedTest::busy, "a STROKE outside, right", x -> x.stroke(2, 1), -2);
        refuse(RefusedTest::busy, "a STROKE outside, down", x -> x.stroke(2, 2), -2);
        refuse(RefusedTest::busy, "no such way", x -> x.stroke(2, 4), -1);
        refuse(RefusedTest::busy, "no such way", x -> x.stroke(2, -1), -1);
        refuse(RefusedTest::busy, "no such rule", x -> x.rule(4) ? 1 : 0, 0);
        refuse(RefusedTest::busy, "no such rule", x -> x.rule(-1) ? 1 : 0, 0);
        refuse(RefusedTest::busy, "a rule that is so", x -> x.rule(0) ? 1 : 0, 0);
        refuse(RefusedTest::plain, "a rule that is so as told", x -> x.rule(2) ? 1 : 0, 0);
    }

    private static void minutes() {
        int[] wrong = {-1, 100, LOW, BIG, 200};
        for (int n : wrong) {
            refuse(RefusedTest::busy, "minutes(" + n + ")", x -> x.minutes(n), -1);
        }
        refuse(() -> atMinute(199), "minutes(1) at 199", x -> x.minutes(1), -1);
        refuse(() -> atMinute(101), "minutes(99) at 101", x -> x.minutes(99), -1);
        refuse(() -> atMinute(198), "minutes(2) at 198", x -> x.minutes(2), -1);
        refuse(RefusedTest::busy, "minutes(0): none goes by", x -> x.minutes(0), 1);
        refuse(() -> atMinute(199), "minutes(0) at 199", x -> x.minutes(0), 199);
    }

    private static void choices() {
        Call[] nones = {x -> x.peak(-1), x -> x.peak(200), x -> x.order(6, -1), x -> x.rests(1, 1), x -> x.rest(1, 1, 0), x -> x.rest(0, 1, -1),
            x -> x.rank(0, 0), x -> x.rank(8, 0), x -> x.rank(1, 2), x -> x.rank(1, -1), x -> x.planned(0, -1), x -> x.go(1, 6, 1000),
            x -> x.go(1, 6, -1), x -> x.give(1, 1, 5), x -> x.give(0, 1, 100), x -> x.give(0, 1, -1), x -> x.table(4, 0, 0), x -> x.table(-1, 0, 0),
            x -> x.table(0, -1, 0), x -> x.table(0, 0, 8), x -> x.table(0, 0, -1), x -> x.table(0, 0, 3), x -> x.table(0, 0, 4), x -> x.fairest(-1),
            x -> x.fairest(LOW), x -> x.gaps(-1, 0), x -> x.gaps(100, 0), x -> x.gaps(1, 2), x -> x.gaps(1, -1), x -> x.shares(2), x -> x.shares(-1),
            x -> x.locals(-1), x -> x.locals(13), x -> x.chance(-1, 0, 0), x -> x.chance(0, 0, -1), x -> x.chance(0, 0, 29), x -> x.tried(-1, 0, 0),
            x -> x.tried(5, 0, 0), x -> x.tried(0, 1, 0), x -> x.tried(2, 1, 0), x -> x.tried(3, -1, 0), x -> x.tried(0, 0, -1),
            x -> x.count(-1), x -> x.count(14), x -> x.count(BIG), x -> x.count(LOW)};
        for (int i = 0; i < nones.length; i++) {
            refuse(RefusedTest::busy, "NONE: the call numbered " + i, nones[i], -1);
        }
        Call[] noSoMany = {x -> x.order(6, 3), x -> x.order(6, BIG), x -> x.rest(0, 1, 25), x -> x.rest(0, 1, BIG), x -> x.planned(0, 28),
            x -> x.planned(0, BIG)};
        for (int i = 0; i < noSoMany.length; i++) {
            refuse(RefusedTest::busy, "-2: the call numbered " + i, noSoMany[i], -2);
        }
    }

    private static void notes() {
        refuse(RefusedTest::busy, "note(-1, 0, 0)", x -> x.note(-1, 0, 0), -1);
        refuse(RefusedTest::busy, "note(200, 0, 0)", x -> x.note(200, 0, 0), -1);
        refuse(RefusedTest::fullNotes, "a 25th NOTE", x -> x.note(0, 0, 0), -1);
        refuse(RefusedTest::fullNotes, "a 25th STRIKE", x -> x.strike(0), -1);
        int[] noNotes = {-1, 4, 24, LOW, BIG};
        for (int n : noNotes) {
            refuse(RefusedTest::busy, "strike(" + n + ")", x -> x.strike(n), -1);
        }
        int[] noNumbers = {-2, 5, 25, LOW, BIG};
        for (int n : noNumbers) {
            refuse(RefusedTest::busy, "known(" + n + ")", x -> x.known(n) ? 1 : 0, 0);
        }
        refuse(RefusedTest::fullNotes, "known(25)", x -> x.known(25) ? 1 : 0, 0);
        refuse(RefusedTest::plain, "known(1) of none", x -> x.known(1) ? 1 : 0, 0);
    }

    private static void undoAndBack() {
        refuse(RefusedTest::plain, "undo() of none", WhoseWave::undo, -1);
        refuse(RefusedTest::plain, "back() to none", WhoseWave::back, -1);
        refuse(RefusedTest::anew, "undo() of none, anew", WhoseWave::undo, -1);
        refuse(RefusedTest::anew, "back() to none, anew", WhoseWave::back, -1);
        refuse(RefusedTest::anew, "text(1), anew", x -> x.text(1), -2);
        refuse(RefusedTest::anew, "rule(0), anew", x -> x.rule(0) ? 1 : 0, 0);
        refuse(RefusedTest::anew, "strike(0), anew", x -> x.strike(0), -1);
        refuse(RefusedTest::anew, "over(0), anew", x -> x.over(0), -1);
        refuse(RefusedTest::anew, "shares(0), anew", x -> x.shares(0), -1);
        refuse(RefusedTest::anew, "next(), anew", WhoseWave::next, -2);
    }

    public static void main(String[] args) {
        scene();
        tapeAndText();
        faults();
        ofSurfersAndWaves();
        strokesAndRules();
        minutes();
        choices();
        notes();
        undoAndBack();
        due.end();
    }
}
