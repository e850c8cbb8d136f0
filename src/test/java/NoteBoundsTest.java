/** Bounds of NOTES, what is TRIED, undone and kept (Terms, parts 3 and 4; promises 31 to 40): at each bound, and one step beyond it. */
public final class NoteBoundsTest {
    private static final int BIG = Integer.MAX_VALUE;
    private static final int LOW = Integer.MIN_VALUE;
    private static final Due due = new Due();
    private static final String TWO = "sea 2 3;surfer a 0 0 1 3 0 0;surfer b 1 0 1 3 0 0;";
    private static final String ALL_WAVES = "set 0 9 9 9 9 9 9 9;set 7 9 9 9 9 9 9 9;set 14 9 9 9 9 9 9 9;set 21 9 9 9 9 9 9 9;";
    private static final int[] NO_SURFERS = {-1, 2, 5, BIG, LOW};

    private static WhoseWave told(String text) {
        return due.told(text);
    }

    // "A NOTE (MINUTE 0 .. 199): its number; NONE: no such ones, or there are 24."
    private static void note() {
        due.in("31 note");
        WhoseWave x = told(TWO);
        due.is("the first ones", x.note(0, 0, 0), 0);
        due.is("the last ones", x.note(199, 1, 5), 1);
        int[] noMinutes = {-1, 200, BIG, LOW};
        for (int minute : noMinutes) {
            due.is("MINUTE " + minute, x.note(minute, 0, 0), -1);
        }
        for (int s : NO_SURFERS) {
            due.is("SURFER " + s, x.note(0, s, 0), -1);
        }
        int[] noCells = {-1, 6, 48, BIG, LOW};
        for (int cell : noCells) {
            due.is("CELL " + cell, x.note(0, 0, cell), -1);
        }
        due.is("NOTES", x.count(11), 2);
        for (int i = 2; i < 24; i++) {
            due.is("NOTES", x.count(11), i);
            due.is("note", x.note(i, 0, 0), i);
        }
        due.is("a 25th", x.note(0, 0, 0), -1);
        due.is("a 25th", x.strike(0), -1);
        due.is("NOTES", x.count(11), 24);
        due.is("without SURFERS", new WhoseWave().note(0, 0, 0), -1);
    }

    // "A STRIKE: its number; NONE: no such NOTE, or there are 24."
    private static void strike() {
        due.in("32 strike");
        WhoseWave x = told(TWO + "set 99 1;");
        due.is("of none", x.strike(0), -1);
        x.note(0, 0, 0);
        due.is("behind the last one", x.strike(1), -1);
        due.is("the last one", x.strike(0), 1);
        due.is("the STRIKE itself", x.strike(1), 2);
        int[] none = {-1, 3, 24, BIG, LOW};
        for (int n : none) {
            due.is("strike(" + n + ")", x.strike(n), -1);
        }
        for (int i = 3; i < 23; i++) {
            due.is("the one ahead", x.strike(i - 1), i);
        }
        due.is("22 STRIKES in a row: the NOTE is KNOWN", x.locals(12), 1);
        due.is("the 24th", x.strike(22), 23);
        due.is("23 STRIKES in a row: it isn't", x.locals(12), 0);
        due.is("a 25th", x.strike(23), -1);
        due.is("a 25th", x.note(0, 0, 0), -1);
    }

    // "KNOWN by n from now on (-1: by all, also those to come): true; false: no such n."
    private static void known() {
        due.in("33 known");
        WhoseWave x = told(TWO + "set 99 1;");
        due.is("0 of none", x.known(0), true);
        due.is("1 of none", x.known(1), false);
        due.is("-1 of none", x.known(-1), true);
        x.note(0, 0, 0);
        x.note(0, 1, 0);
        due.is("also those to come", x.locals(12), 3);
        due.is("by all", x.count(12), 2);
        due.is("2 of 2", x.known(2), true);
        due.is("by 2", x.locals(12), 3);
        x.strike(0);
        due.is("by 2: not those to come", x.locals(12), 3);
        due.is("by 2", x.count(12), 2);
        due.is("4 of 3", x.known(4), false);
        due.is("by 2 all the same", x.count(12), 2);
        due.is("3 of 3", x.known(3), true);
        due.is("by 3", x.locals(12), 2);
        due.is("1 of 3", x.known(1), true);
        due.is("by 1", x.locals(12), 1);
        due.is("0 of 3", x.known(0), true);
        due.is("by none", x.locals(12), 0);
        due.is("by none", x.count(12), 0);
        int[] none = {-2, 4, 25, BIG, LOW};
        for (int n : none) {
            due.is("known(" + n + ")", x.known(n), false);
            due.is("by none all the same", x.count(12), 0);
        }
        due.is("-1", x.known(-1), true);
        due.is("by all", x.locals(12), 2);
    }

    // "at most d far from the PEAK of that WAVE's MINUTE"; "LOCALS (d 0 .. 12); NONE: no such d."
    private static void howFar() {
        due.in("34 locals: how far");
        int[] cells = {0, 1, 2, 3, 4, 5, 6, 7, 15, 23, 31, 39, 47};
        for (int far = 0; far <= 12; far++) {
            WhoseWave x = told("sea 8 6;surfer a 0 0 1 1 0 0;set 0 1;");
            x.note(0, 0, cells[far]);
            for (int d = 0; d <= 12; d++) {
                due.is(far + " far, d " + d, x.locals(d), far <= d ? 1 : 0);
            }
        }
        WhoseWave x = told("sea 8 6;surfer a 0 0 1 1 0 0;surfer b 0 0 1 1 0 0;surfer c 0 0 1 1 0 0;surfer d 0 0 1 1 0 0;surfer e 0 0 1 1 0 0;set 0 1;");
        int[] noD = {-1, 13, BIG, LOW};
        for (int d : noD) {
            due.is("d " + d, x.locals(d), -1);
        }
        for (int s = 0; s < 5; s++) {
            due.is("none yet", x.locals(12), (1 << s) - 1);
            x.note(0, s, 0);
        }
        due.is("all five", x.locals(0), 31);
    }

    // "at or ahead of a SET's first WAVE (the next one)"; "(notes behind all SETS don't count)".
    private static void whichSet() {
        String two = "sea 8 1;surfer a 0 0 1 1 0 0;set 5 1 1;set 9 1;law drift (minute = 9) * 7;";
        int[] minutes = {0, 4, 5, 6, 8, 9, 10, 199};
        int[] near = {1, 1, 1, 0, 0, 0, 0, 0};
        int[] nearNext = {0, 0, 0, 1, 1, 1, 0, 0};
        for (int i = 0; i < minutes.length; i++) {
            due.in("34 locals: a NOTE at " + minutes[i]);
            WhoseWave x = told(two);
            x.note(minutes[i], 0, 0);
            due.is("at the PEAK of 5", x.locals(0), near[i]);
            due.is("at most 12 far", x.locals(12), near[i] + nearNext[i]);
            x = told(two);
            x.note(minutes[i], 0, 7);
            due.is("at the PEAK of 9", x.locals(0), nearNext[i]);
        }
        due.in("34 locals: each of them");
        WhoseWave x = told(two);
        x.note(5, 0, 0);
        x.note(6, 0, 6);
        due.is("one 1 far", x.locals(0), 0);
        due.is("both", x.locals(1), 1);
        x.note(10, 0, 4);
        due.is("one that doesn't count", x.locals(1), 1);
        x.strike(1);
        due.is("without the one that is STRUCK", x.locals(0), 1);
        x = told("sea 8 1;surfer a 0 0 1 1 0 0;");
        x.note(0, 0, 0);
        due.is("without SETS", x.locals(12), 0);
    }

    // "a SURFER has at least n (0 .. 28) WAVES then"; "a seed 0 .. 2147483647"; "NONE: no such ones."
    private static void chance() {
        due.in("35 chance");
        WhoseWave x = told("sea 1 1;surfer a 0 0 1 1 0 0;surfer b 0 0 1 1 0 0;" + ALL_WAVES + "law catch 100;law away 1;");
        due.is("28 of 28", x.chance(0, 0, 28), 10);
        due.is("27 of 28", x.chance(BIG, 0, 27), 10);
        due.is("0 of 28", x.chance(0, 1, 0), 10);
        due.is("1 of 28", x.chance(0, 1, 1), 0);
        int[] noN = {-1, 29, BIG, LOW};
        for (int n : noN) {
            due.is("n " + n, x.chance(0, 0, n), -1);
        }
        for (int s : NO_SURFERS) {
            due.is("SURFER " + s, x.chance(0, s, 0), -1);
        }
        due.is("seed -1", x.chance(-1, 0, 0), -1);
        due.is("seed LOW", x.chance(LOW, 0, 0), -1);
        x = told("sea 1 1;surfer a 0 0 1 1 0 0;set 0 1;law catch 39;");
        due.is("of 38, 58, 13, 15, 51, 27, 10, 19, 12, 86: below 39", x.chance(1, 0, 1), 7);
        x = told("sea 1 1;surfer a 0 0 1 1 0 0;set 0 1;law catch 38;");
        due.is("below 38", x.chance(1, 0, 1), 6);
        x = told("sea 1 1;surfer a 0 0 1 1 0 0;set 0 1;law catch 86;");
        due.is("below 86", x.chance(1, 0, 1), 9);
        x = told("sea 1 1;surfer a 0 0 1 1 0 0;set 0 1;law catch 87;");
        due.is("below 87", x.chance(1, 0, 1), 10);
    }

    // "TRIED (seed 0 .. 2147483647); NONE: no such ones (i 0 of 0, 2, 3)."
    private static void tried() {
        due.in("36 tried");
        WhoseWave x = told(TWO + "set 0 1;law catch 100;");
        for (int what = 0; what <= 4; what++) {
            boolean asksOne = what == 1 || what == 4;
            due.is("tried(" + what + ", 0, 0)", x.tried(what, 0, 0), 1);
            due.is("tried(" + what + ", 0, BIG)", x.tried(what, 0, BIG), 1);
            due.is("tried(" + what + ", 1, 0)", x.tried(what, 1, 0), asksOne ? 1 : -1);
            due.is("seed -1", x.tried(what, 0, -1), -1);
            due.is("seed LOW", x.tried(what, 0, LOW), -1);
            for (int i : NO_SURFERS) {
                due.is("tried(" + what + ", " + i + ", 0)", x.tried(what, i, 0), -1);
            }
        }
        int[] noWhat = {-1, 5, BIG, LOW};
        for (int what : noWhat) {
            due.is("what " + what, x.tried(what, 0, 0), -1);
        }
        x = told("set 0 1;");
        int[] without = {0, -1, 0, 0, -1};
        for (int what = 0; what <= 4; what++) {
            due.is("without SURFERS", x.tried(what, 0, 0), without[what]);
        }
    }

    // "0 nobody is BOLD", "3 all BOARDS are 9": at the bounds of BOLD and BOARD.
    private static void triedAtBounds() {
        due.in("36 tried: bounds");
        String crossed = "sea 1 1;surfer a 0 0 1 1 0 0;surfer b 0 0 1 1 100 0;set 0 1;law catch 100;";
        due.is("BOLD 100 crosses", told(crossed).table(0, 0, 5), 1);
        due.is("nobody is BOLD", told(crossed).tried(0, 0, 0), 1);
        due.is("b isn't there", told(crossed).tried(1, 1, 0), 1);
        due.is("else", told(crossed).tried(2, 0, 0), 0);
        String hardly = "sea 1 1;surfer a 0 0 1 1 1 0;surfer b 0 0 1 1 1 0;set 0 1;law catch 100;";
        due.is("the second number from seed 80 is 0: BOLD 1 crosses", told(hardly).table(0, 80, 5), 1);
        due.is("nobody is BOLD", told(hardly).tried(0, 0, 80), 1);
        String ahead = "sea 2 1;surfer a 1 0 1 1 100 0;surfer b 0 0 1 1 100 0;set 0 1;law catch 100;";
        due.is("a crosses", told(ahead).table(0, 0, 5), 1);
        due.is("nobody is BOLD", told(ahead).tried(0, 0, 0), 1);
        String boards = "sea 1 1;surfer a 0 0 8 1 0 0;set 0 1;law catch 100*(board ";
        due.is("BOARD 8", told(boards + "= 9);").table(0, 0, 0), 0);
        due.is("BOARD 9", told(boards + "= 9);").tried(3, 0, 0), 1);
        due.is("no more than 9", told(boards + "> 9);").tried(3, 0, 0), 0);
        WhoseWave x = told(boards + "= 8);");
        due.is("as it is", x.tried(0, 0, 0), 1);
        due.is("all BOARDS are 9", x.tried(3, 0, 0), 0);
        due.is("as it is, behind that", x.tried(0, 0, 0), 1);
        due.is("as it is, behind that", x.tried(2, 0, 0), 1);
        x = told("sea 8 1;peak 7 0;surfer a 0 0 1 1 0 0;surfer b 7 0 1 1 0 0;set 0 1 1;law drift 0-7*(minute=0);");
        due.is("the PEAK drifts: a, then b", x.tried(0, 0, 0), 2);
        due.is("it doesn't: b alone, once", x.tried(2, 0, 0), 1);
        due.is("all sit where a sits", x.tried(4, 0, 0), 1);
        due.is("all sit where b sits", x.tried(4, 1, 0), 1);
        due.is("it drifts, behind that", x.tried(0, 0, 0), 2);
        due.is("a isn't there", x.tried(1, 0, 0), 1);
        due.is("b isn't there", x.tried(1, 1, 0), 1);
    }

    // "the latest first (20 at most), if no MINUTE went by since."
    private static void undo() {
        due.in("37 undo");
        for (int done = 0; done <= 22; done++) {
            WhoseWave x = told(TWO);
            for (int i = 0; i < done; i++) {
                due.is("rule", x.rule(i % 2 == 0 ? 1 : 2), true);
            }
            int left = Math.min(20, done);
            due.is(done + " to undo", x.count(13), left);
            for (int i = left - 1; i >= 0; i--) {
                due.is("undo of " + done, x.undo(), i);
                due.is("left", x.count(13), i);
            }
            due.is("none", x.undo(), -1);
            due.is("the rule then", x.count(7), done <= 20 ? 0 : done == 21 ? 1 : 2);
        }
        WhoseWave x = told(TWO);
        x.rule(1);
        x.minutes(0);
        due.is("no MINUTE went by", x.count(13), 1);
        x.minutes(100);
        due.is("no MINUTE went by", x.count(13), 1);
        x.minutes(1);
        due.is("a MINUTE went by", x.count(13), 0);
        due.is("a MINUTE went by", x.undo(), -1);
        due.is("the rule stays", x.count(7), 1);
    }

    // The latest 20 of more are undone one by one, STROKES and rules among them, as they were done.
    private static void undoMixed() {
        for (int more = 0; more < 4; more++) {
            due.in("37 undo: 20 and " + more);
            WhoseWave x = told("sea 8 1;surfer a 0 0 1 3 0 0;surfer b 0 0 1 3 0 0;surfer c 0 0 1 3 0 0;surfer d 0 0 1 3 0 0;");
            Whole[] before = new Whole[20 + more];
            for (int i = 0; i < 20 + more; i++) {
                before[i] = seats(x);
                if (i % 2 == 0 && i < 24) {
                    due.is("stroke", x.stroke(i / 2 % 4, 1), i / 8 + 1);
                } else {
                    due.is("rule", x.rule(i % 4 == 1 ? 3 : 1), true);
                }
            }
            for (int i = 19; i >= 0; i--) {
                due.is("undo", x.undo(), i);
                seats(x).mustBe(due, before[i + more]);
            }
            due.is("none", x.undo(), -1);
        }
    }

    private static Whole seats(WhoseWave x) {
        return Whole.of("look", x.count(7), x.look(0, 0), x.look(1, 0), x.look(2, 0), x.look(3, 0), x.look(0, 4), x.look(1, 4), x.look(2, 4), x.look(3, 4));
    }

    // "All (but NOTES) is as in the IMAGE": whatever went by since.
    private static void allOfTheImage() {
        due.in("39 back: all");
        String text = "sea 5 4;peak 1 1;surfer a 1 1 3 3 50 60;surfer b 2 1 5 3 50 30;surfer c 4 3 9 3 0 0;set 0 4 7 5;set 6 3 9;set 12 1 2;bank 2 3 6;"
            + "rule each;seed 66;law catch 80 - far * 15;law drift minute / 4;law away 1;";
        WhoseWave x = told(text);
        WhoseWave twin = told(text);
        WhoseWave[] both = {x, twin};
        for (WhoseWave one : both) {
            one.minutes(3);
            due.that("some WAVES were had", one.shares(1) > 0);
            due.that("some were CROSSED", one.count(8) > 0);
            due.that("some were WASTED", one.count(9) > 0);
            due.that("somebody is AWAY", one.look(0, 3) + one.look(1, 3) + one.look(2, 3) > 0);
            one.rule(1);
            one.stroke(0, 1);
            one.stroke(2, 0);
            due.that("some STROKES were used", one.look(0, 4) + one.look(2, 4) < 6);
            one.keep();
            one.back();
        }
        x.rule(3);
        x.stroke(1, 0);
        x.stroke(2, 3);
        x.minutes(12);
        due.that("more were CROSSED", x.count(8) > twin.count(8));
        due.that("more WAVES were had", x.shares(1) > twin.shares(1));
        due.that("more were WASTED", x.count(9) > twin.count(9));
        x.stroke(0, 2);
        x.rule(0);
        due.is("back", x.back(), 3);
        Whole.asked(x).mustBe(due, Whole.asked(twin));
        Whole.driven(x).mustBe(due, Whole.driven(twin));
    }

    // "An IMAGE is kept (in place of one ahead)"; "(nothing to undo then)"; "NONE: there is none."
    private static void images() {
        due.in("38 keep, 39 back");
        WhoseWave x = told(TWO + "set 0 1;law catch 100;");
        due.is("none", x.back(), -1);
        x.rule(2);
        due.is("keep", x.keep(), 0);
        due.is("it can be undone all the same", x.count(13), 1);
        due.is("back at once", x.back(), 0);
        due.is("nothing to undo then", x.count(13), 0);
        due.is("the rule", x.count(7), 2);
        x.minutes(99);
        due.is("in place of it", x.keep(), 99);
        x.minutes(99);
        x.minutes(1);
        due.is("back from 199", x.back(), 99);
        due.is("back twice", x.back(), 99);
        x.note(0, 0, 0);
        x.known(0);
        due.is("back", x.back(), 99);
        due.is("NOTES stay", x.count(11), 1);
        due.is("-2: it stays", x.text(1), -2);
        due.is("back", x.back(), 99);
        Due.tell(x, "#");
        due.is("a FAULT: it stays", x.back(), 99);
        x.text(0);
        due.is("a TEXT: none", x.back(), -1);
    }

    // "NONE for another what."
    private static void count() {
        due.in("40 count");
        WhoseWave x = told("sea 8 6;surfer a 0 0 1 1 0 0;surfer b 0 0 1 1 0 0;" + ALL_WAVES + "rule out;law away 1;law catch not 1/0;");
        int[] all = {8, 6, 2, 4, 28, 5, 0, 3, 0, 0, 28, 0, 0, 0};
        for (int what = 0; what < 14; what++) {
            due.is("count(" + what + ")", x.count(what), all[what]);
        }
        int[] none = {-1, 14, BIG, LOW};
        for (int what : none) {
            due.is("count(" + what + ")", x.count(what), -1);
        }
        for (int minute = 1; minute <= 28; minute++) {
            x.minutes(1);
            due.is("to come at " + minute, x.count(10), 28 - minute);
        }
    }

    // "An object is used for at most 512 calls after it has been made": the 512th is answered as the first.
    private static void calls() {
        due.in("512 calls");
        WhoseWave x = new WhoseWave();
        for (int i = 1; i < 512; i++) {
            due.is("call " + i, i % 2 == 0 ? x.fairest(i) : x.text(1), i % 2 == 0 ? 0 : -2);
        }
        due.is("call 512", x.feed(0, 0, 0, 0, 0), 20);
    }

    public static void main(String[] args) {
        note();
        strike();
        known();
        howFar();
        whichSet();
        chance();
        tried();
        triedAtBounds();
        undo();
        undoMixed();
        images();
        allOfTheImage();
        count();
        calls();
        due.end();
    }
}
