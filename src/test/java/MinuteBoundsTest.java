/** Bounds of MINUTES, the PEAK, ODDS, STROKES and the ORDER (Terms, part 2; promises 6 to 15): at each bound, and one step beyond it. */
public final class MinuteBoundsTest {
    private static final int BIG = Integer.MAX_VALUE;
    private static final int LOW = Integer.MIN_VALUE;
    private static final Due due = new Due();
    private static final String ONE = "sea 1 1;seed 1;surfer a 0 0 1 1 0 0;";

    private static WhoseWave told(String text) {
        return due.told(text);
    }

    // "IndexOutOfBoundsException: no such SURFER. NoSuchElementException: no such what."
    private static void look() {
        due.in("6 look");
        WhoseWave x = told("surfer a 0 0 1 1 0 0;surfer b 1 0 1 1 0 0;");
        int[] noSurfers = {-1, 2, 5, BIG, LOW};
        int[] noWhats = {-1, 6, BIG, LOW};
        for (int what = 0; what < 6; what++) {
            due.that("look(0, " + what + ")", Due.look(x, 0, what) < 1000);
            due.that("look(1, " + what + ")", Due.look(x, 1, what) < 1000);
            for (int s : noSurfers) {
                due.is("look(" + s + ", " + what + ")", Due.look(x, s, what), 1000);
            }
        }
        for (int what : noWhats) {
            due.is("look(0, " + what + ")", Due.look(x, 0, what), 2000);
            due.is("look(1, " + what + ")", Due.look(x, 1, what), 2000);
            due.is("look(2, " + what + ")", Due.look(x, 2, what), 1000);
        }
        due.is("without SURFERS", Due.look(new WhoseWave(), 0, 0), 1000);
    }

    // "3 AWAY till (0: IN)"; "AWAY: till that MINUTE and E of away (1 .. 30; 5 without, with an ERROR) are there."
    private static void away() {
        String[] laws = {"law away 0;", "law away 1;", "law away 2;", "law away 30;", "law away 31;", "law away 0-1;", "law away 1/0;", "",
            "law away 1000*1000*1000*1000;", "law away 0-1000*1000*1000*1000;"};
        int[] howLong = {1, 1, 2, 30, 30, 1, 5, 5, 30, 1};
        for (int i = 0; i < laws.length; i++) {
            due.in("AWAY by " + laws[i]);
            WhoseWave x = told(ONE + "set 3 1;law catch 100;" + laws[i]);
            x.minutes(4);
            due.is("right behind the WAVE", Due.look(x, 0, 3), howLong[i] == 1 ? 0 : 3 + howLong[i]);
            x.minutes(Math.max(0, howLong[i] - 2));
            due.is("the last MINUTE of it", Due.look(x, 0, 3), howLong[i] == 1 ? 0 : 3 + howLong[i]);
            x.minutes(1);
            due.is("IN again", Due.look(x, 0, 3), 0);
        }
    }

    // "both are AWAY for twice as long": of 1 .. 30, so 2 .. 60.
    private static void twiceAsLong() {
        String[] laws = {"law away 0;", "law away 1;", "law away 30;", "law away 31;", "law away 1/0;", ""};
        int[] howLong = {2, 2, 60, 60, 10, 10};
        for (int i = 0; i < laws.length; i++) {
            due.in("CROSSED by " + laws[i]);
            WhoseWave x = told(ONE + "surfer b 0 0 1 1 100 0;set 3 1;law catch 100;" + laws[i]);
            x.minutes(4);
            due.is("it", x.wave(0, 4), -3);
            due.is("who would have had it", Due.look(x, 0, 3), 3 + howLong[i]);
            due.is("who crossed", Due.look(x, 1, 3), 3 + howLong[i]);
            due.is("CROSSED ones of the one", Due.look(x, 0, 2), 1);
            due.is("CROSSED ones of the other", Due.look(x, 1, 2), 1);
            due.is("neither has it", x.shares(1), 0);
            x.minutes(howLong[i] - 2);
            due.is("the last MINUTE of it", Due.look(x, 0, 3), 3 + howLong[i]);
            x.minutes(1);
            due.is("IN again", Due.look(x, 0, 3), 0);
            due.is("IN again", Due.look(x, 1, 3), 0);
        }
    }

    // One who is IN again in the very MINUTE of a WAVE is there for it; a MINUTE less and it is not.
    private static void backInTime() {
        due.in("who is AWAY till it is IN again");
        WhoseWave x = told(ONE + "set 0 1 1 1;law catch 100;law away 2;");
        x.minutes(3);
        int[] who = {0, -1, 0};
        for (int w = 0; w < 3; w++) {
            due.is("wave " + w, x.wave(w, 4), who[w]);
        }
        x = told(ONE + "set 0 1 1 1;law catch 100;law away 1;");
        x.minutes(3);
        due.is("each", Due.look(x, 0, 1), 3);
        due.is("in a RUN", told(ONE + "set 0 1 1 1;law catch 100;law away 2;").table(0, 0, 0), 2);
        due.is("in a RUN", told(ONE + "set 0 1 1 1;law catch 100;law away 3;").table(0, 0, 0), 1);
    }

    // "-4: no such ones."
    private static void wave() {
        due.in("7 wave");
        WhoseWave x = told("set 0 9;set 98 1 2;");
        int[][] all = {{0, 9, 0, 1, -2}, {98, 1, 1, 1, -2}, {99, 2, 1, 2, -2}};
        for (int w = 0; w < 3; w++) {
            for (int what = 0; what < 5; what++) {
                due.is("wave(" + w + ", " + what + ")", x.wave(w, what), all[w][what]);
            }
        }
        int[] none = {-1, 3, 28, BIG, LOW};
        int[] noWhats = {-1, 5, BIG, LOW};
        for (int what = 0; what < 5; what++) {
            for (int w : none) {
                due.is("wave(" + w + ", " + what + ")", x.wave(w, what), -4);
            }
        }
        for (int what : noWhats) {
            due.is("wave(0, " + what + ")", x.wave(0, what), -4);
            due.is("wave(2, " + what + ")", x.wave(2, what), -4);
            due.is("wave(3, " + what + ")", x.wave(3, what), -4);
        }
        due.is("without WAVES", new WhoseWave().wave(0, 0), -4);
        x.minutes(98);
        due.is("of this MINUTE: it is to come", x.wave(1, 4), -2);
        x.minutes(1);
        due.is("of the MINUTE ahead", x.wave(1, 4), -1);
        due.is("of this MINUTE", x.wave(2, 4), -2);
    }

    // "The PEAK's CELL of a MINUTE 0 .. 199; NONE: no such one."
    private static void peak() {
        due.in("8 peak");
        WhoseWave x = told("sea 8 2;peak 3 1;law drift minute/199*4;");
        due.is("0", x.peak(0), 11);
        due.is("198", x.peak(198), 11);
        due.is("199", x.peak(199), 15);
        int[] none = {-1, 200, BIG, LOW};
        for (int minute : none) {
            due.is("peak(" + minute + ")", x.peak(minute), -1);
        }
        x.minutes(99);
        due.is("it doesn't matter which MINUTE it is", x.peak(0), 11);
    }

    // "its x more by E of drift (-8 .. 8; 0 without, with an ERROR), 0 at least, WIDE less 1 at most."
    private static void drift() {
        String[] drifts = {"0-1000*1000*1000*1000", "0-9", "0-8", "0-4", "0-3", "0-2", "0-1", "0", "1", "3", "4", "5", "8", "9", "1000*1000*1000*1000",
            "1/0", "1000*1000*1000*1000+1"};
        int[] columns = {0, 0, 0, 0, 0, 1, 2, 3, 4, 6, 7, 7, 7, 7, 7, 3, 3};
        for (int i = 0; i < drifts.length; i++) {
            due.in("drift " + drifts[i]);
            due.is("of 8", told("sea 8 1;peak 3 0;law drift " + drifts[i] + ";").peak(0), columns[i]);
            due.is("of 5", told("sea 5 1;peak 3 0;law drift " + drifts[i] + ";").peak(0), Math.min(4, columns[i]));
            due.is("of 1", told("sea 1 6;peak 0 5;law drift " + drifts[i] + ";").peak(0), 5);
        }
        due.in("drift from one side to the other");
        due.is("without", told("sea 8 1;peak 7 0;").peak(199), 7);
        due.is("7", told("sea 8 1;law drift 7;").peak(0), 7);
        due.is("-7", told("sea 8 1;peak 7 0;law drift 0-7;").peak(0), 0);
        due.is("y stays", told("sea 8 6;peak 0 4;law drift 9;").peak(0), 39);
    }

    // "ODDS: E of catch (0 .. 100; 100 less 20 times far, 0 at least, without, with an ERROR)."
    private static void odds() {
        String[] laws = {"0-1000*1000*1000*1000", "0-1", "0", "1", "99", "100", "101", "1000*1000*1000*1000"};
        int[] wants = {0, 0, 0, 1, 99, 100, 100, 100};
        for (int i = 0; i < laws.length; i++) {
            due.in("catch " + laws[i]);
            WhoseWave x = told("surfer a 0 0 1 1 0 0;set 0 1;law catch " + laws[i] + ";");
            due.is("odds", x.odds(0, 0, 0), wants[i]);
            due.is("in the ORDER, if above 0", x.order(0, 0), wants[i] > 0 ? 0 : -2);
        }
        String[] without = {"", "law catch 1/0;", "law catch 1000*1000*1000*1000+1;"};
        int[] far = {100, 80, 60, 40, 20, 0, 0, 0};
        for (String law : without) {
            due.in("far, " + law);
            WhoseWave x = told("sea 8 6;surfer a 0 0 1 1 0 0;set 0 1;" + law);
            for (int i = 0; i < 8; i++) {
                due.is("odds " + i + " far", x.odds(0, 0, i), far[i]);
            }
            due.is("12 far", x.odds(0, 0, 47), 0);
        }
    }

    // "far: steps (x and y)": in a sea of one row, of one column, of all rows and columns.
    private static void far() {
        due.in("far");
        for (int i = 0; i < 6; i++) {
            WhoseWave x = told("sea 1 6;peak 0 2;surfer a 0 " + i + " 1 1 0 0;set 0 1;law catch far*10+side+5;");
            due.is("row " + i, Due.look(x, 0, 5), Math.abs(i - 2));
            due.is("row " + i, x.law(0, 0, 0), 10 * Math.abs(i - 2) + i - 2 + 5);
        }
        for (int i = 0; i < 8; i++) {
            WhoseWave x = told("sea 8 1;peak 2 0;surfer a " + i + " 0 1 1 0 0;set 0 1;law catch far*10+side+5;");
            due.is("column " + i, Due.look(x, 0, 5), Math.abs(i - 2));
            due.is("column " + i, x.law(0, 0, 0), 10 * Math.abs(i - 2) + 5);
        }
        due.is("from corner to corner", Due.look(told("sea 8 6;peak 7 0;surfer a 0 5 1 1 0 0;"), 0, 5), 12);
        WhoseWave x = told("sea 8 1;surfer a 3 0 1 1 0 0;set 2 1;law drift minute;law catch far;");
        due.is("from the PEAK of this MINUTE", Due.look(x, 0, 5), 3);
        due.is("from the PEAK of the WAVE's MINUTE", x.law(0, 0, 0), 1);
    }

    private static void oddsOfNone() {
        due.in("9 odds");
        WhoseWave x = told("sea 2 3;surfer a 0 0 1 1 0 0;surfer b 0 0 1 1 0 0;set 0 1 1;");
        due.is("the last ones", x.odds(1, 1, 5), 40);
        due.is("the first ones", x.odds(0, 0, 0), 100);
        int[] none = {-1, BIG, LOW};
        for (int n : none) {
            due.is("SURFER " + n, x.odds(n, 0, 0), -1);
            due.is("WAVE " + n, x.odds(0, n, 0), -1);
            due.is("CELL " + n, x.odds(0, 0, n), -1);
        }
        due.is("SURFER 2", x.odds(2, 0, 0), -1);
        due.is("WAVE 2", x.odds(0, 2, 0), -1);
        due.is("CELL 6", x.odds(0, 0, 6), -1);
        x.minutes(9);
        due.is("of a WAVE that was", x.odds(1, 1, 5), 40);
    }

    // "by 0 up (y less), 1 right, 2 down, 3 left, to the CELL beside"; "-2: outside".
    private static void strokesAtTheEdge() {
        strokesAtTheEdge(3, 3);
        strokesAtTheEdge(4, 2);
        strokesAtTheEdge(2, 5);
        strokesAtTheEdge(8, 1);
        strokesAtTheEdge(1, 6);
    }

    private static void strokesAtTheEdge(int wide, int high) {
        for (int cell = 0; cell < wide * high; cell++) {
            int column = cell % wide;
            int row = cell / wide;
            int[] to = {row > 0 ? cell - wide : -2, column < wide - 1 ? cell + 1 : -2, row < high - 1 ? cell + wide : -2, column > 0 ? cell - 1 : -2};
            for (int way = 0; way < 4; way++) {
                due.in("11 stroke from " + cell + " of " + wide + " and " + high + " by " + way);
                WhoseWave x = told("sea " + wide + " " + high + ";surfer a " + column + " " + row + " 1 1 0 0;");
                due.is("stroke", x.stroke(0, way), to[way]);
                due.is("where it sits", Due.look(x, 0, 0), to[way] < 0 ? cell : to[way]);
                due.is("STROKES left", Due.look(x, 0, 4), to[way] < 0 ? 1 : 0);
                due.is("to undo", x.count(13), to[way] < 0 ? 0 : 1);
            }
        }
    }

    // "PACE of them each MINUTE at most"; "strokes begin anew"; "NONE: no such ones."
    private static void strokesLeft() {
        for (int pace = 1; pace <= 3; pace++) {
            due.in("PACE " + pace);
            WhoseWave x = told("sea 8 1;surfer a 0 0 1 " + pace + " 0 0;surfer b 0 0 1 1 0 0;");
            for (int i = 0; i < pace; i++) {
                due.is("left", Due.look(x, 0, 4), pace - i);
                due.is("stroke", x.stroke(0, 1), i + 1);
            }
            due.is("left", Due.look(x, 0, 4), 0);
            due.is("one more", x.stroke(0, 1), -2);
            due.is("another one's", x.stroke(1, 1), 1);
            x.minutes(0);
            due.is("no MINUTE went by", x.stroke(0, 1), -2);
            x.minutes(1);
            due.is("anew", Due.look(x, 0, 4), pace);
            due.is("anew", x.stroke(0, 1), pace + 1);
            x.undo();
            due.is("undone", Due.look(x, 0, 4), pace);
        }
        due.in("11 stroke: none");
        WhoseWave x = told("sea 8 1;surfer a 3 0 1 3 0 0;surfer b 3 0 1 3 0 0;");
        int[] none = {-1, 2, 5, BIG, LOW};
        for (int s : none) {
            due.is("SURFER " + s, x.stroke(s, 1), -1);
        }
        int[] ways = {-1, 4, BIG, LOW};
        for (int way : ways) {
            due.is("way " + way, x.stroke(1, way), -1);
        }
    }

    // "AWAY" till the MINUTE comes.
    private static void strokesOfOneAway() {
        due.in("11 stroke of one who is AWAY");
        WhoseWave x = told("sea 8 1;surfer a 0 0 1 3 0 0;set 0 1;law catch 100;law away 3;");
        due.is("IN", x.stroke(0, 1), 1);
        x.minutes(1);
        due.is("AWAY", x.stroke(0, 1), -2);
        due.is("AWAY, and no such way", x.stroke(0, 4), -1);
        x.minutes(1);
        due.is("AWAY", x.stroke(0, 1), -2);
        x.minutes(1);
        due.is("IN again", x.stroke(0, 1), 2);
    }

    // "true; false: no such one, it is so."
    private static void rule() {
        due.in("12 rule");
        for (int was = 0; was < 4; was++) {
            for (int rule = -1; rule <= 4; rule++) {
                WhoseWave x = told("rule " + new String[] {"deep", "turns", "each", "out"}[was] + ";");
                boolean changes = rule >= 0 && rule < 4 && rule != was;
                due.is("rule(" + rule + ") of " + was, x.rule(rule), changes);
                due.is("then", x.count(7), changes ? rule : was);
                due.is("to undo", x.count(13), changes ? 1 : 0);
            }
        }
        WhoseWave x = new WhoseWave();
        due.is("BIG", x.rule(BIG), false);
        due.is("LOW", x.rule(LOW), false);
    }

    // "So many MINUTES (0 .. 99) go by: which one it is; NONE, and none does: no such number, behind 199."
    private static void minutes() {
        due.in("13 minutes");
        int[] none = {-1, 100, 199, BIG, LOW};
        for (int n : none) {
            WhoseWave x = told("set 0 1;");
            due.is("minutes(" + n + ")", x.minutes(n), -1);
            due.is("none goes by", x.count(6), 0);
            due.is("the WAVE is to come", x.count(10), 1);
        }
        WhoseWave x = told("set 0 1;");
        due.is("0", x.minutes(0), 0);
        due.is("the WAVE is to come", x.count(10), 1);
        due.is("1", x.minutes(1), 1);
        due.is("the WAVE came", x.count(10), 0);
        due.is("98", x.minutes(98), 99);
        due.is("99", x.minutes(99), 198);
        due.is("behind 199", x.minutes(2), -1);
        due.is("behind 199", x.minutes(99), -1);
        due.is("up to 199", x.minutes(1), 199);
        due.is("behind 199", x.minutes(1), -1);
        due.is("none", x.minutes(0), 199);
        x = told("");
        x.minutes(99);
        x.minutes(2);
        due.is("101 and 99", x.minutes(99), -1);
        due.is("101 and 98", x.minutes(98), 199);
        x = told("");
        x.minutes(99);
        x.minutes(1);
        due.is("100 and 99", x.minutes(99), 199);
    }

    // The last WAVE there can be, of MINUTE 105, comes; all is still answered in MINUTE 199.
    private static void lastMinute() {
        due.in("the last MINUTE");
        WhoseWave x = told(ONE + "set 99 1 1 1 1 1 1 1;bank 1 1 1;law catch 100;law away 1;");
        x.minutes(99);
        x.minutes(6);
        due.is("to come", x.count(10), 1);
        due.is("it", x.wave(6, 4), -2);
        x.minutes(1);
        due.is("to come", x.count(10), 0);
        due.is("it", x.wave(6, 4), 0);
        due.is("had", Due.look(x, 0, 1), 7);
        x.minutes(93);
        due.is("199", x.count(6), 199);
        due.is("look", Due.look(x, 0, 5), 0);
        due.is("next", x.next(), -2);
        due.is("over", x.over(0), -2);
        due.is("plan", x.plan(0), 0);
        due.is("planned", x.planned(0, 0), -2);
        due.is("seat", x.seat(0, 0), 0);
        due.is("order", x.order(6, 0), -1);
        due.is("go", x.go(0, 6, 0), -1);
        due.is("table", x.table(0, 0, 0), 7);
        due.is("chance", x.chance(0, 0, 7), 10);
        due.is("chance", x.chance(0, 0, 8), 0);
        due.is("tried", x.tried(0, 0, 0), 7);
        due.is("keep", x.keep(), 199);
        due.is("back", x.back(), 199);
    }

    // "The k-th in the ORDER for a WAVE to come ...; -2: there are no so many; NONE: no such ones."
    private static void order() {
        due.in("14 order");
        String five = "sea 5 1;surfer a 4 0 1 1 0 0;surfer b 3 0 1 1 0 0;surfer c 2 0 1 1 0 0;surfer d 1 0 1 1 0 0;surfer e 0 0 1 1 0 0;";
        WhoseWave x = told(five + "set 1 1 1;");
        for (int k = 0; k < 5; k++) {
            due.is("order(0, " + k + ")", x.order(0, k), 4 - k);
            due.is("order(1, " + k + ")", x.order(1, k), 4 - k);
        }
        int[] noSoMany = {5, 6, BIG};
        for (int k : noSoMany) {
            due.is("order(0, " + k + ")", x.order(0, k), -2);
        }
        int[] none = {-1, 2, 28, BIG, LOW};
        for (int w : none) {
            due.is("order(" + w + ", 0)", x.order(w, 0), -1);
        }
        due.is("k -1", x.order(0, -1), -1);
        due.is("k LOW", x.order(0, LOW), -1);
        x.minutes(1);
        due.is("the WAVE of this MINUTE", x.order(0, 0), 4);
        x.minutes(1);
        due.is("the WAVE of the MINUTE ahead", x.order(0, 0), -1);
        due.is("nobody", told("set 0 1;").order(0, 0), -2);
    }

    // "deep: the least far first; ... of like ones by numbers"; "out: the greatest y"; "turns: who had the fewest WAVES".
    private static void likeOnes() {
        due.in("like ones by numbers");
        WhoseWave x = told("sea 3 3;peak 1 1;surfer a 1 0 1 1 0 0;surfer b 0 1 1 1 0 0;surfer c 2 1 1 1 0 0;surfer d 1 2 1 1 0 0;surfer e 1 1 1 1 0 0;set 0 1;");
        int[][] rules = {{4, 0, 1, 2, 3}, {0, 1, 2, 3, 4}, {4, 0, 1, 2, 3}, {3, 1, 2, 4, 0}};
        for (int rule = 0; rule < 4; rule++) {
            x.rule(rule);
            for (int k = 0; k < 5; k++) {
                due.is("rule " + rule + ", the one numbered " + k, x.order(0, k), rules[rule][k]);
            }
        }
    }

    // "each: who had none of this SET ahead of who had, then the least far": one SET's WAVES don't count for another's.
    private static void eachOfThisSet() {
        due.in("each");
        WhoseWave x = told("sea 2 1;surfer a 0 0 1 1 0 0;surfer b 1 0 1 1 0 0;set 0 1 1;set 2 1;rule each;law catch 100;law away 1;");
        x.minutes(1);
        due.is("a had the first", x.wave(0, 4), 0);
        due.is("of the same SET", x.order(1, 0), 1);
        due.is("of the same SET", x.order(1, 1), 0);
        due.is("of the next SET", x.order(2, 0), 0);
        x.minutes(1);
        due.is("b had the second", x.wave(1, 4), 1);
        x.minutes(1);
        due.is("a has the next SET's", x.wave(2, 4), 0);
        x = told("sea 3 1;surfer a 1 0 1 1 0 0;surfer b 0 0 1 1 0 0;set 0 1 1 1;rule each;law catch 100;law away 1;");
        x.minutes(2);
        due.is("both had one: the least far", x.order(2, 0), 1);
        due.is("both had one", x.order(2, 1), 0);
        x = told("sea 1 1;surfer a 0 0 1 1 0 0;surfer b 0 0 1 1 0 0;surfer c 0 0 1 1 0 0;surfer d 0 0 1 1 0 0;surfer e 0 0 1 1 0 0;rule each;"
            + "set 0 1 1 1 1 1 1 1;set 7 1 1 1 1 1 1 1;set 14 1 1 1 1 1 1 1;set 21 1 1 1 1 1 1 1;law catch 100;law away 1;");
        x.minutes(28);
        int[] had = {12, 4, 4, 4, 4};
        for (int s = 0; s < 5; s++) {
            due.is("of four full SETS", Due.look(x, s, 1), had[s]);
        }
        due.is("WAVES had in sum", x.shares(1), 28);
        due.is("UNLIKE", x.shares(0), 8);
    }

    // "1, 2; 0: alike; NONE: no such ones."
    private static void deeper() {
        due.in("15 deeper");
        WhoseWave x = told("sea 4 1;peak 1 0;surfer a 0 0 1 1 0 0;surfer b 2 0 1 1 0 0;surfer c 3 0 1 1 0 0;");
        due.is("alike", x.deeper(0, 1), 0);
        due.is("the one", x.deeper(0, 2), 1);
        due.is("the other one", x.deeper(2, 1), 2);
        due.is("with itself", x.deeper(2, 2), 0);
        int[] none = {-1, 3, 5, BIG, LOW};
        for (int s : none) {
            due.is("deeper(0, " + s + ")", x.deeper(0, s), -1);
            due.is("deeper(" + s + ", 0)", x.deeper(s, 0), -1);
            due.is("deeper(" + s + ", " + s + ")", x.deeper(s, s), -1);
        }
    }

    // "a number modulo 100: the first for whom it is below ODDS RIDES": each bound of the first number from seed 1, 38.
    private static void numbersAtTheBound() {
        due.in("numbers from seed 1: 38, 58, 13");
        int[] odds = {37, 38, 39, 40};
        int[] who = {-1, -1, 0, 0};
        for (int i = 0; i < odds.length; i++) {
            WhoseWave x = told(ONE + "set 0 1;law catch " + odds[i] + ";");
            x.minutes(1);
            due.is("ODDS " + odds[i], x.wave(0, 4), who[i]);
            due.is("WASTED", x.count(9), who[i] < 0 ? 1 : 0);
        }
        int[] bold = {57, 58, 59, 60};
        int[] whose = {0, 0, -3, -3};
        for (int i = 0; i < bold.length; i++) {
            WhoseWave x = told(ONE + "surfer b 0 0 1 1 " + bold[i] + " 0;set 0 1;law catch 39;");
            x.minutes(1);
            due.is("BOLD " + bold[i], x.wave(0, 4), whose[i]);
            due.is("CROSSED", x.count(8), whose[i] < 0 ? 1 : 0);
        }
    }

    // "of each behind that one ... with BOLD above 0 a number"; "(no more numbers for this WAVE)".
    private static void whoTakesNumbers() {
        due.in("numbers from seed 1: 38, 58, 13, 15");
        String three = "sea 1 1;seed 1;surfer a 0 0 1 1 100 0;surfer b 0 0 1 1 ";
        WhoseWave x = told(three + "0 0;surfer c 0 0 1 1 58 0;set 0 1;law catch 39;");
        x.minutes(1);
        due.is("BOLD 0 takes none: c's is 58", x.wave(0, 4), 0);
        x = told(three + "1 0;surfer c 0 0 1 1 14 0;set 0 1;law catch 39;");
        x.minutes(1);
        due.is("BOLD 1 takes one: c's is 13", x.wave(0, 4), -3);
        due.is("b isn't CROSSED", Due.look(x, 1, 2), 0);
        due.is("c is", Due.look(x, 2, 2), 1);
        x = told(three + "59 0;surfer c 0 0 1 1 100 0;set 0 1 1;law catch 39;law away 1;");
        x.minutes(2);
        due.is("b crosses", Due.look(x, 1, 2), 1);
        due.is("c takes none, its next one is 13", x.wave(1, 4), 2);
        x = told("sea 1 1;seed 1;surfer a 0 0 1 1 100 0;surfer b 0 0 2 1 100 0;set 0 1;law catch 38 + (board = 2) * 21;");
        x.minutes(1);
        due.is("a, who is BOLD, is ahead of b, who RIDES", x.wave(0, 4), 1);
        due.is("nobody is CROSSED", x.count(8), 0);
    }

    // "Numbers are the last one ... without what is above 31 bits": the first one from the greatest seed is 29.
    private static void greatestSeed() {
        due.in("the greatest seed");
        due.is("29 isn't below 29", told(ONE + "set 0 1;law catch 29;").table(0, BIG, 0), 0);
        due.is("29 is below 30", told(ONE + "set 0 1;law catch 30;").table(0, BIG, 0), 1);
        due.is("0 is below 1", told(ONE + "set 0 1;law catch 1;").table(0, 0, 0), 1);
        due.is("seed -1", told(ONE + "set 0 1;law catch 100;").table(0, -1, 0), -1);
    }

    public static void main(String[] args) {
        look();
        away();
        twiceAsLong();
        backInTime();
        wave();
        peak();
        drift();
        odds();
        far();
        oddsOfNone();
        strokesAtTheEdge();
        strokesLeft();
        strokesOfOneAway();
        rule();
        minutes();
        lastMinute();
        order();
        likeOnes();
        eachOfThisSet();
        deeper();
        numbersAtTheBound();
        whoTakesNumbers();
        greatestSeed();
        due.end();
    }
}
