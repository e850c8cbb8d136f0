/** Bounds of SEATS, GAMES, PLANS, RUNS and SETS (Terms, part 3; promises 16 to 30): at each bound, and one step beyond it. */
public final class ChoiceBoundsTest {
    private static final int BIG = Integer.MAX_VALUE;
    private static final int LOW = Integer.MIN_VALUE;
    private static final Due due = new Due();
    private static final String ONE = "sea 1 1;surfer a 0 0 1 1 0 0;";
    private static final String ALL_WAVES = "set 0 9 9 9 9 9 9 9;set 7 9 9 9 9 9 9 9;set 14 9 9 9 9 9 9 9;set 21 9 9 9 9 9 9 9;";
    private static final int[] NO_SURFERS = {-1, 2, 5, BIG, LOW};

    private static WhoseWave told(String text) {
        return due.told(text);
    }

    // "ODDS times SIZE of all WAVES to come in sum (the one of this MINUTE too)"; "NONE: no such ones."
    private static void seat() {
        due.in("16 seat");
        WhoseWave x = told("sea 2 3;surfer a 0 0 1 1 0 0;surfer b 0 0 1 1 0 0;" + ALL_WAVES + "law catch 100;");
        due.is("the greatest", x.seat(1, 5), 25200);
        due.is("the first CELL", x.seat(0, 0), 25200);
        int[] noCells = {-1, 6, 48, BIG, LOW};
        for (int cell : noCells) {
            due.is("CELL " + cell, x.seat(0, cell), -1);
        }
        for (int s : NO_SURFERS) {
            due.is("SURFER " + s, x.seat(s, 0), -1);
        }
        x.minutes(27);
        due.is("the last one, of this MINUTE", x.seat(0, 0), 900);
        x.minutes(1);
        due.is("a MINUTE later", x.seat(0, 0), 0);
        due.is("without WAVES", told(ONE).seat(0, 0), 0);
    }

    // "BEST SEAT: with the greatest, the first of several."
    private static void best() {
        due.in("17 best");
        String two = "surfer a 0 0 1 1 0 0;surfer b 0 0 1 1 0 0;";
        WhoseWave x = told("sea 8 6;peak 7 5;" + two + "set 0 1;");
        due.is("the last CELL", x.best(0), 47);
        due.is("the last CELL", x.best(1), 47);
        due.is("the first CELL", told("sea 8 6;" + two + "set 0 1;").best(0), 0);
        due.is("the one CELL", told("sea 1 1;" + two + "set 0 1;").best(0), 0);
        due.is("the first of several", told("sea 4 3;peak 1 1;" + two + "set 0 1;law catch far = 1;").best(0), 1);
        due.is("all nothing", told("sea 4 3;peak 1 1;" + two + "set 0 1;law catch 0;").best(1), 0);
        due.is("one more than the first", told("sea 4 3;peak 3 2;" + two + "set 0 1;law catch 50+(far=0);").best(1), 11);
        due.is("the last row", told("sea 4 3;" + two + "set 0 1;law catch side*20;").best(0), 8);
        due.is("the farthest CELL there is", told("sea 4 3;" + two + "set 0 1;law catch far*10;").best(0), 11);
        x.minutes(1);
        due.is("no WAVES to come", x.best(0), 0);
        for (int s : NO_SURFERS) {
            due.is("SURFER " + s, x.best(s), -1);
        }
    }

    // "each stays or takes the CELL beside by 0 to 3 (...; one outside isn't one)"; "NONE: no such ones, alike."
    private static void waysOutside() {
        due.in("18 rests: ways outside");
        int[] howMany = {3, 4, 3, 4, 5, 4, 3, 4, 3};
        int[] lastWay = {2, 3, 3, 2, 3, 3, 1, 3, 3};
        for (int cell = 0; cell < 9; cell++) {
            WhoseWave x = told("sea 3 3;surfer a " + cell % 3 + " " + cell / 3 + " 1 1 0 0;surfer b 1 1 1 1 0 0;");
            due.is("all WAYS from " + cell, x.rests(0, 1), howMany[cell] * 5);
            due.is("the first", x.rest(0, 1, 0), 44);
            due.is("the last", x.rest(0, 1, howMany[cell] * 5 - 1), 10 * lastWay[cell] + 3);
            due.is("behind it", x.rest(0, 1, howMany[cell] * 5), -2);
            due.is("the last, by the other one", x.rest(1, 0, howMany[cell] * 5 - 1), 30 + lastWay[cell]);
        }
        WhoseWave x = told("sea 1 1;surfer a 0 0 1 1 0 0;surfer b 0 0 1 1 0 0;set 0 1;");
        due.is("of one CELL", x.rests(0, 1), 1);
        due.is("of one CELL", x.rest(0, 1, 0), 44);
        due.is("of one CELL", x.rest(0, 1, 1), -2);
        due.is("k -1", x.rest(0, 1, -1), -1);
        due.is("k LOW", x.rest(0, 1, LOW), -1);
        due.is("k BIG", x.rest(0, 1, BIG), -2);
        for (int s : NO_SURFERS) {
            due.is("SURFER " + s, x.rests(0, s), -1);
            due.is("SURFER " + s, x.rests(s, 1), -1);
            due.is("SURFER " + s, x.rest(0, s, 0), -1);
            due.is("SURFER " + s, x.rest(s, 1, 0), -1);
        }
        due.is("alike", x.rests(1, 1), -1);
        due.is("alike", x.rest(0, 0, 0), -1);
    }

    // "who is less far has ODDS times SIZE, of like ones the one with the lesser number, the other one nothing".
    private static void likeOnesInTheGame() {
        due.in("18 rests: like ones");
        WhoseWave x = told("sea 3 1;peak 1 0;surfer a 0 0 1 1 0 0;surfer b 2 0 1 1 0 0;set 0 1;law catch 100*(far<2);");
        due.is("a takes the PEAK, b stays or takes it too", x.rests(0, 1), 2);
        due.is("b stays: it has nothing either way", x.rest(0, 1, 0), 14);
        due.is("both at the PEAK: a has it", x.rest(0, 1, 1), 13);
        due.is("both stay: b would have more at the PEAK", x.rest(0, 1, 2), -2);
        due.is("b is asked first", x.rest(1, 0, 0), 41);
        due.is("b is asked first", x.rest(1, 0, 1), 31);
        x = told("sea 3 1;peak 1 0;surfer a 2 0 1 1 0 0;surfer b 0 0 1 1 0 0;set 0 1;law catch 100*(far<2);");
        due.is("from the other side", x.rest(0, 1, 0), 34);
        due.is("from the other side", x.rest(0, 1, 1), 31);
        due.is("from the other side", x.rest(0, 1, 2), -2);
    }

    // "A REST: neither has more by another WAY alone": of full SETS, a sits best where it is, b has the other WAVES.
    private static void gameOfAllWaves() {
        due.in("18 rests: all WAVES");
        WhoseWave x = told("sea 8 1;peak 2 0;surfer a 2 0 1 1 0 0;surfer b 7 0 1 1 0 0;" + ALL_WAVES + "law drift (minute>6)*5;");
        due.is("both stay", x.rests(0, 1), 1);
        due.is("both stay", x.rest(0, 1, 0), 44);
        due.is("behind it", x.rest(0, 1, 1), -2);
        x = told("sea 8 1;peak 2 0;surfer a 3 0 1 1 0 0;surfer b 6 0 1 1 0 0;" + ALL_WAVES + "law drift (minute>6)*5;");
        due.is("each moves", x.rests(0, 1), 1);
        due.is("a left, b right", x.rest(0, 1, 0), 31);
        due.is("b right, a left", x.rest(1, 0, 0), 13);
        x = told("sea 3 3;peak 1 1;surfer a 1 0 1 1 0 0;surfer b 1 2 1 1 0 0;set 0 1;law catch far*20;");
        due.is("less far has less here", x.rests(0, 1), 3);
        int[] rests = {44, 40, 20, -2};
        for (int k = 0; k < 4; k++) {
            due.is("the one numbered " + k, x.rest(0, 1, k), rests[k]);
        }
        x.minutes(1);
        due.is("none to come: all that aren't outside", x.rests(0, 1), 16);
    }

    // "one outside isn't one": whatever a GAME ahead had there. c would take the PEAK from 2 by 3, a can't go there from 0.
    private static void outsideBehindAnotherGame() {
        due.in("18 rests: behind another GAME");
        String text = "sea 4 1;peak 1 0;surfer a 0 0 1 1 0 0;surfer b 3 0 1 1 0 0;surfer c 2 0 9 1 0 0;set 0 9;law catch board*10;";
        int[][] pairs = {{0, 1}, {1, 0}};
        for (int[] pair : pairs) {
            WhoseWave x = told(text);
            int rests = x.rests(pair[0], pair[1]);
            due.that("there are some", rests > 0);
            x.rests(2, 1);
            due.is("as before", x.rests(pair[0], pair[1]), rests);
            x.rests(1, 2);
            due.is("as before", x.rests(pair[0], pair[1]), rests);
        }
        WhoseWave x = told(text);
        x.rest(2, 1, 0);
        x.rest(1, 2, 0);
        int[] ways = {44, 43, 14, 13, -2};
        for (int k = 0; k < 5; k++) {
            due.is("a has it all the same, b nothing: the one numbered " + k, x.rest(0, 1, k), ways[k]);
        }
    }

    // "RANK ...: in how many SETS with k WAVES at least the k-th is as large as any of its SET"; "(1 .. 7)".
    private static void rank() {
        due.in("20 rank");
        WhoseWave x = told("set 0 5 5 5 5 5 5 5;set 10 1 2 3 4 5 6 7;set 20 9 8;set 30 4;");
        int[] largest = {3, 1, 1, 1, 1, 1, 2};
        int[] of = {4, 3, 2, 2, 2, 2, 2};
        for (int k = 1; k <= 7; k++) {
            due.is("rank(" + k + ", 0)", x.rank(k, 0), largest[k - 1]);
            due.is("rank(" + k + ", 1)", x.rank(k, 1), of[k - 1]);
        }
        int[] noK = {0, 8, -1, BIG, LOW};
        for (int k : noK) {
            due.is("rank(" + k + ", 0)", x.rank(k, 0), -1);
            due.is("rank(" + k + ", 1)", x.rank(k, 1), -1);
        }
        int[] noWhat = {-1, 2, BIG, LOW};
        for (int what : noWhat) {
            due.is("rank(1, " + what + ")", x.rank(1, what), -1);
        }
        due.is("without SETS", new WhoseWave().rank(7, 0), 0);
        due.is("without SETS", new WhoseWave().rank(1, 1), 0);
    }

    // "each behind the last one by as much as away is then (of that WAVE) at least"; away is 1 .. 30.
    private static void planBehindAway() {
        due.in("21 plan: away");
        int[] aways = {4, 5, 6};
        int[] sums = {200, 200, 100};
        for (int i = 0; i < 3; i++) {
            WhoseWave x = told(ONE + "set 0 1;set 5 1;law away " + aways[i] + ";");
            due.is("away " + aways[i], x.plan(0), sums[i]);
            due.is("the first", x.planned(0, 0), 0);
            due.is("the second", x.planned(0, 1), aways[i] > 5 ? -2 : 1);
        }
        due.is("without: 5", told(ONE + "set 0 1;set 5 1;").plan(0), 200);
        due.is("without: 5", told(ONE + "set 0 1;set 4 1;").plan(0), 100);
        due.is("30 at most", told(ONE + "set 0 1;set 30 1;law away 31;").plan(0), 200);
        due.is("30 at most", told(ONE + "set 0 1;set 29 1;law away 31;").plan(0), 100);
        due.is("1 at least", told(ONE + "set 0 1 1;law away 0;").plan(0), 200);
        due.is("an ERROR: 5", told(ONE + "set 0 1;set 5 1;law away 1/0;").plan(0), 200);
        due.is("of that WAVE", told(ONE + "set 0 1 1 1;law away which;").plan(0), 200);
        due.is("of its MINUTE", told(ONE + "set 2 1 1 1 1;law away minute;").planned(0, 1), 2);
    }

    // "the greatest sum of ODDS times SIZE; of several the first: one goes for the earlier WAVE rather than not."
    private static void planOfAll() {
        due.in("21 plan: how many");
        WhoseWave x = told(ONE + ALL_WAVES + "law away 1;");
        due.is("all", x.plan(0), 25200);
        due.is("the first", x.planned(0, 0), 0);
        due.is("the last", x.planned(0, 27), 27);
        due.is("behind it", x.planned(0, 28), -2);
        due.is("behind it", x.planned(0, BIG), -2);
        due.is("k -1", x.planned(0, -1), -1);
        due.is("k LOW", x.planned(0, LOW), -1);
        int[] none = {-1, 1, BIG, LOW};
        for (int s : none) {
            due.is("SURFER " + s, x.plan(s), -1);
            due.is("SURFER " + s, x.planned(s, 0), -1);
        }
        x.minutes(27);
        due.is("the one of this MINUTE", x.planned(0, 0), 27);
        x.minutes(1);
        due.is("none to come", x.plan(0), 0);
        due.is("none to come", x.planned(0, 0), -2);
        due.is("as much: the earlier", told(ONE + "set 0 5 5;law away 2;").planned(0, 0), 0);
        due.is("one more: the later", told(ONE + "set 0 5 6;law away 2;").planned(0, 0), 1);
        x = told(ONE + "set 0 5 6;law catch 0;law away 2;");
        due.is("nothing: rather than not", x.planned(0, 0), 0);
        due.is("nothing", x.plan(0), 0);
        due.is("nothing: one alone", x.planned(0, 1), -2);
        x = told(ONE + "set 0 9;law away 1;");
        due.is("before", x.plan(0), 900);
        Due.tell(x, ONE + ALL_WAVES + "law away 1;");
        due.is("more WAVES", x.plan(0), 25200);
        Due.tell(x, ONE + "set 0 9;law away 1;");
        due.is("fewer again", x.plan(0), 900);
        due.is("fewer again", x.planned(0, 1), -2);
    }

    // "go, if ODDS times SIZE is more than a cost times how likely it is CROSSED"; "(cost 0 .. 999)".
    private static void go() {
        due.in("23 go");
        WhoseWave x = told("sea 1 1;surfer a 0 0 1 1 0 0;surfer b 0 0 1 1 1 0;set 1 9 1;law catch 111;");
        due.is("900 and 899", x.go(0, 0, 899), 1);
        due.is("900 and 900", x.go(0, 0, 900), 0);
        due.is("900 and 901", x.go(0, 0, 901), 0);
        due.is("the least cost", x.go(0, 0, 0), 1);
        due.is("the greatest cost", x.go(0, 0, 999), 0);
        due.is("the greatest cost, nobody behind", x.go(1, 0, 999), 1);
        int[] noCosts = {-1, 1000, BIG, LOW};
        for (int cost : noCosts) {
            due.is("cost " + cost, x.go(0, 0, cost), -1);
        }
        int[] noWaves = {-1, 2, 28, BIG, LOW};
        for (int w : noWaves) {
            due.is("WAVE " + w, x.go(0, w, 0), -1);
        }
        for (int s : NO_SURFERS) {
            due.is("SURFER " + s, x.go(s, 0, 0), -1);
        }
        x.minutes(1);
        due.is("of this MINUTE", x.go(0, 0, 0), 1);
        x.minutes(1);
        due.is("of the MINUTE ahead", x.go(0, 0, 0), -1);
        x = told("sea 1 1;surfer a 0 0 1 1 0 0;set 0 1;law catch 0;");
        due.is("0 isn't more than 0", x.go(0, 0, 0), 0);
        due.is("0 isn't more than 999 times 0", x.go(0, 0, 999), 0);
        x = told("sea 1 1;surfer a 0 0 1 1 0 0;set 0 1;law catch 1;");
        due.is("1 is more than 0", x.go(0, 0, 0), 1);
    }

    // "of those who are IN, have ODDS above 0 for it, come behind in the ORDER of now"; "times, by 100, cut".
    private static void whoIsBehind() {
        due.in("23 go: who is behind");
        String first = "sea 8 1;surfer a 1 0 1 1 0 0;surfer b ";
        due.is("ahead: none behind", told(first + "0 0 1 1 100 0;set 0 5;").go(0, 0, 999), 1);
        due.is("alike, a greater number: behind", told(first + "1 0 1 1 100 0;set 0 5;").go(0, 0, 4), 0);
        due.is("ODDS 20: behind", told(first + "4 0 1 1 100 0;set 0 5;").go(0, 0, 4), 0);
        due.is("ODDS 0: not", told(first + "5 0 1 1 100 0;set 0 5;").go(0, 0, 999), 1);
        WhoseWave x = told(first + "2 0 1 1 100 0;set 0 5;set 9 5;law away 9;rule out;");
        x.stroke(1, 3);
        due.is("IN", x.go(0, 1, 4), 0);
        x = told("sea 8 1;surfer a 1 0 1 1 0 0;surfer b 0 0 1 1 100 0;set 0 5;set 9 5;law catch 100;law away 9;");
        x.minutes(1);
        x.rule(3);
        due.is("b is AWAY", Due.look(x, 1, 3), 9);
        due.is("AWAY: not", x.go(0, 1, 999), 1);
        x.minutes(8);
        due.is("IN again", x.go(0, 1, 4), 1);
        due.is("IN again", x.go(0, 1, 5), 0);
        x = told("sea 3 1;surfer a 0 0 1 1 0 0;surfer b 1 0 1 1 50 0;surfer c 2 0 1 1 10 0;set 0 5;set 9 5;law catch 100;law away 9;seed 1;");
        x.minutes(1);
        due.is("a is AWAY itself", Due.look(x, 0, 3), 9);
        due.is("by the rule both would be behind: 55 of 100, 9 times", x.go(0, 1, 9), 1);
        due.is("10 times", x.go(0, 1, 10), 0);
        x = told("sea 1 1;surfer a 0 0 1 1 0 0;surfer b 0 0 1 1 1 0;surfer c 0 0 1 1 1 0;set 0 4;law catch 100;");
        due.is("99 times 99 by 100 is 98: 2 of 100, 199 times", x.go(0, 0, 199), 1);
        due.is("200 times: as much", x.go(0, 0, 200), 0);
        x = told("sea 1 1;surfer a 0 0 1 1 0 0;surfer b 0 0 1 1 1 0;surfer c 0 0 1 1 1 0;surfer d 0 0 1 1 1 0;surfer e 0 0 1 1 1 0;set 0 4;law catch 100;");
        due.is("99, 98, 97, 96: 4 of 100, 99 times", x.go(0, 0, 99), 1);
        due.is("100 times: as much", x.go(0, 0, 100), 0);
    }

    // "whether BENT of that other one ... times n is more than 100"; "(n 0 .. 99)"; "NONE: no such ones, alike."
    private static void give() {
        due.in("24 give");
        WhoseWave x = told("surfer a 0 0 1 1 0 100;surfer b 0 0 1 1 0 50;");
        int[][] asks = {{0, 1, 0, 0}, {0, 1, 1, 0}, {0, 1, 2, 0}, {0, 1, 3, 1}, {0, 1, 99, 1}, {1, 0, 0, 0}, {1, 0, 1, 0}, {1, 0, 2, 1},
            {0, 1, 100, -1}, {0, 1, -1, -1}, {0, 1, BIG, -1}, {0, 1, LOW, -1}, {0, 0, 2, -1}, {1, 1, 2, -1}};
        for (int[] ask : asks) {
            due.is("give(" + ask[0] + ", " + ask[1] + ", " + ask[2] + ")", x.give(ask[0], ask[1], ask[2]), ask[3]);
        }
        for (int s : NO_SURFERS) {
            due.is("SURFER " + s, x.give(0, s, 3), -1);
            due.is("SURFER " + s, x.give(s, 1, 3), -1);
        }
        x = told("surfer a 0 0 1 1 0 0;surfer b 0 0 1 1 0 1;");
        due.is("1 times 99", x.give(0, 1, 99), 0);
        due.is("0 times 99", x.give(1, 0, 99), 0);
    }

    // "(rule 0 .. 3, seed 0 .. 2147483647), what 0 .. 4: WAVES that SURFER what has then (NONE: there is none), ... NONE: no such ones."
    private static void table() {
        due.in("25 table");
        WhoseWave x = told("sea 1 1;surfer a 0 0 1 1 0 0;surfer b 0 0 1 1 0 0;" + ALL_WAVES + "law catch 100;law away 1;");
        int[] deep = {28, 0, -1, -1, -1, 0, 0, 28};
        for (int what = 0; what < 8; what++) {
            due.is("table(0, 0, " + what + ")", x.table(0, 0, what), deep[what]);
            due.is("table(3, BIG, " + what + ")", x.table(3, BIG, what), deep[what]);
            due.is("rule -1", x.table(-1, 0, what), -1);
            due.is("rule 4", x.table(4, 0, what), -1);
            due.is("rule LOW", x.table(LOW, 0, what), -1);
            due.is("seed -1", x.table(0, -1, what), -1);
            due.is("seed LOW", x.table(0, LOW, what), -1);
        }
        int[] noWhats = {-1, 8, BIG, LOW};
        for (int what : noWhats) {
            due.is("what " + what, x.table(0, 0, what), -1);
        }
        due.is("turns", x.table(1, 0, 7), 0);
        due.is("WASTED: all", told(ALL_WAVES).table(0, 0, 6), 28);
        due.is("WASTED: none", told(ONE).table(0, 0, 6), 0);
        x = told("surfer a 0 0 1 1 0 0;surfer b 0 0 1 1 0 0;surfer c 0 0 1 1 0 0;surfer d 0 0 1 1 0 0;surfer e 0 0 1 1 0 0;set 0 1;law catch 100;");
        due.is("the fifth SURFER", x.table(0, 0, 4), 0);
        due.is("CROSSED", x.table(0, 0, 5), 0);
    }

    // "BEST RULE: by which UNLIKE is least behind the RUN, of several fewest CROSSED and WASTED in sum, of several the first".
    private static void fairest() {
        due.in("26 fairest");
        due.is("all alike", new WhoseWave().fairest(0), 0);
        due.is("the greatest seed", new WhoseWave().fairest(BIG), 0);
        due.is("-1", new WhoseWave().fairest(-1), -1);
        due.is("LOW", new WhoseWave().fairest(LOW), -1);
        WhoseWave x = told("sea 1 1;surfer a 0 0 1 1 0 0;surfer b 0 0 1 1 0 0;set 0 1 1;law catch 100;law away 1;");
        due.is("turns and each: the first", x.fairest(0), 1);
        due.is("each is as good", x.table(2, 0, 7), x.table(1, 0, 7));
        x = told("sea 1 2;surfer a 0 0 1 1 0 0;surfer b 0 1 1 1 100 0;set 0 1 1;law catch 100;law away 2;");
        due.is("deep: a CROSSED one and a WASTED one", x.table(0, 0, 5) + x.table(0, 0, 6), 2);
        due.is("out: none", x.table(3, 0, 5) + x.table(3, 0, 6), 0);
        due.is("UNLIKE", x.table(0, 0, 7) + x.table(3, 0, 7), 0);
        due.is("fewest CROSSED and WASTED", x.fairest(0), 3);
    }

    // "the first MINUTE from now on at which the other bank brings more than the SEAT is then"; "by the MINUTE of the last WAVE told".
    private static void over() {
        due.in("27 over");
        String last = ONE + "set 20 1;bank ";
        due.is("its WAVE comes in the last MINUTE", told(last + "20 1 2;").over(0), 0);
        due.is("as much isn't more", told(last + "20 1 1;").over(0), -2);
        WhoseWave x = told(last + "20 1 2;");
        x.minutes(1);
        due.is("its WAVE comes a MINUTE behind it", x.over(0), -2);
        x = told(last + "20 20 2;");
        x.minutes(1);
        due.is("its WAVE comes a MINUTE behind it", x.over(0), -2);
        x = told("sea 1 1;surfer a 0 0 1 1 0 0;set 20 1;law catch 99;bank 20 20 1;");
        due.is("100 is more than 99", x.over(0), 0);
        due.is("two: at 10 and 20", told(last + "10 10 1;").over(0), 0);
        x = told(last + "10 10 1;");
        x.minutes(1);
        due.is("one: at 11", x.over(0), -2);
        due.is("one: at 10, the next at 21", told(last + "10 11 1;").over(0), -2);
        String empty = "sea 1 1;surfer a 0 0 1 1 0 0;set 0 1;set 20 1;law catch 0;bank ";
        x = told(empty + "1 1 1;");
        for (int minute = 0; minute < 20; minute++) {
            due.is("at " + minute, x.over(0), minute);
            x.minutes(1);
        }
        due.is("in the last MINUTE", x.over(0), -2);
        x.minutes(1);
        due.is("behind it", x.over(0), -2);
        x = told(ONE + "set 0 9;set 20 1;bank 1 20 2;");
        due.is("behind the first WAVE", x.over(0), 1);
        due.is("behind the second WAVE", told(ONE + "set 0 9 9;set 20 1;bank 1 20 2;").over(0), 2);
        due.is("behind the third WAVE", told(ONE + "set 0 1 9 9;set 20 1;bank 1 20 2;").over(0), 3);
        int[] none = {-1, 1, 5, BIG, LOW};
        for (int s : none) {
            due.is("SURFER " + s, x.over(s), -1);
        }
        due.is("no bank", told(ONE + "set 0 1;").over(0), -1);
        due.is("no WAVES", told(ONE + "bank 1 1 1;").over(0), -1);
    }

    // "MINUTES till the next SET begins (0: now); -2: there is none."
    private static void next() {
        due.in("28 next");
        WhoseWave x = told("set 2 1 1;set 99 1 1;");
        int[] till = {2, 1, 0, 96, 95};
        for (int minute = 0; minute < 5; minute++) {
            due.is("at " + minute, x.next(), till[minute]);
            x.minutes(1);
        }
        x.minutes(93);
        due.is("at 98", x.next(), 1);
        x.minutes(1);
        due.is("at 99", x.next(), 0);
        x.minutes(1);
        due.is("at 100, in the SET", x.next(), -2);
        due.is("without SETS", new WhoseWave().next(), -2);
    }

    // "How many GAPS are at most k (0 .. 99), what 1: how many there are. NONE: no such ones."
    private static void gaps() {
        due.in("29 gaps");
        WhoseWave x = told("set 0 1;set 1 1 1;set 4 1;set 99 1;");
        int[][] few = {{0, 0}, {1, 1}, {2, 2}, {3, 2}, {94, 2}, {95, 3}, {96, 3}, {99, 3}};
        for (int[] pair : few) {
            due.is("at most " + pair[0], x.gaps(pair[0], 0), pair[1]);
            due.is("all", x.gaps(pair[0], 1), 3);
        }
        x = told("set 0 1;set 99 1;");
        due.is("the greatest", x.gaps(98, 0), 0);
        due.is("the greatest", x.gaps(99, 0), 1);
        int[] noK = {-1, 100, BIG, LOW};
        for (int k : noK) {
            due.is("k " + k, x.gaps(k, 0), -1);
        }
        int[] noWhat = {-1, 2, BIG, LOW};
        for (int what : noWhat) {
            due.is("what " + what, x.gaps(1, what), -1);
        }
        due.is("one SET", told("set 0 1;").gaps(99, 0), 0);
        due.is("one SET", told("set 0 1;").gaps(99, 1), 0);
        due.is("without SETS", new WhoseWave().gaps(0, 1), 0);
    }

    // "UNLIKE now, what 1: all WAVES had in sum. NONE: no such what, no SURFERS."
    private static void shares() {
        due.in("30 shares");
        WhoseWave x = told("sea 1 1;surfer a 0 0 1 1 0 0;surfer b 0 0 1 1 0 0;" + ALL_WAVES + "law catch 100;law away 1;");
        due.is("at first", x.shares(0), 0);
        due.is("at first", x.shares(1), 0);
        x.minutes(28);
        due.is("28 and 0", x.shares(0), 28);
        due.is("28", x.shares(1), 28);
        int[] noWhat = {-1, 2, BIG, LOW};
        for (int what : noWhat) {
            due.is("what " + what, x.shares(what), -1);
        }
        due.is("one SURFER", told(ONE).shares(0), 0);
        x = told(ONE + "set 0 1;law catch 100;");
        x.minutes(1);
        due.is("one SURFER who had one", x.shares(0), 0);
        due.is("one SURFER who had one", x.shares(1), 1);
        x = told("sea 1 1;surfer a 0 0 1 1 0 0;surfer b 0 0 1 1 0 0;surfer c 0 0 1 1 0 0;surfer d 0 0 1 1 0 0;surfer e 0 0 1 1 0 0;set 0 1 1;rule turns;"
            + "law catch 100;");
        x.minutes(2);
        due.is("five SURFERS", x.shares(0), 1);
        due.is("five SURFERS", x.shares(1), 2);
        x = told("sea 2 1;surfer a 1 0 1 1 0 0;surfer b 0 0 1 1 0 0;surfer c 1 0 1 1 0 0;set 0 1 1;law catch 100;law away 1;");
        due.is("the second one has the most, in a RUN", x.table(0, 0, 7), 2);
        x.minutes(2);
        due.is("the second one had the most", x.shares(0), 2);
        due.is("no SURFERS", told("set 0 1;").shares(0), -1);
        due.is("no SURFERS", told("set 0 1;").shares(1), -1);
    }

    public static void main(String[] args) {
        seat();
        best();
        waysOutside();
        likeOnesInTheGame();
        gameOfAllWaves();
        outsideBehindAnotherGame();
        rank();
        planBehindAway();
        planOfAll();
        go();
        whoIsBehind();
        give();
        table();
        fairest();
        over();
        next();
        gaps();
        shares();
        due.end();
    }
}
