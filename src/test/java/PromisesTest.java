/** Each promise by hand: ordinary inputs, the edges that the document names, wrong inputs. */
public final class PromisesTest {
    private static final int BIG = Integer.MAX_VALUE;
    private static final int LOW = Integer.MIN_VALUE;
    private static final String FOUR = "sea 8 6;peak 3 3;surfer a 0 3 1 1 0 0;surfer b 3 3 1 2 0 0;surfer c 3 4 1 3 0 0;surfer d 3 2 1 1 0 0;";
    private static final String TWO = "sea 2 1;surfer a 0 0 1 1 0 0;surfer b 1 0 1 1 0 0;";

    private static final Due due = new Due();

    private static WhoseWave told(String text) {
        return due.told(text);
    }

    private static void counts(WhoseWave x, int... wanted) {
        for (int i = 0; i < wanted.length; i++) {
            due.is("count(" + i + ")", x.count(i), wanted[i]);
        }
    }

    private static void order(WhoseWave x, int wave, int... wanted) {
        for (int i = 0; i < wanted.length; i++) {
            due.is("order(" + wave + ", " + i + ")", x.order(wave, i), wanted[i]);
        }
    }

    private static void newObject() {
        due.in("1 a new object");
        WhoseWave x = new WhoseWave();
        counts(x, 6, 4, 0, 0, 0, 0, 0, 0, 0, 0, 0, 0, 0, 0, -1);
        due.is("text(1)", x.text(1), -2);
        due.is("fault(0)", x.fault(0), 0);
        due.is("fault(1)", x.fault(1), -1);
        due.is("NONE", WhoseWave.NONE, -1);
        due.is("peak(199)", x.peak(199), 0);
        due.is("back()", x.back(), -1);
        due.is("undo()", x.undo(), -1);
    }

    private static void feed() {
        due.in("2 feed");
        WhoseWave x = new WhoseWave();
        for (int i = 1; i <= 35; i++) {
            due.is("feed", x.feed(0x20202020, 0x20202020, 0x0a0a0a0a, 0x20202020, 0x20202020), 20 * i);
        }
        due.is("a 36th feed", x.feed(0, 0, 0, 0, 0), -1);
        due.is("text(701)", x.text(701), -2);
        due.is("text(700)", x.text(700), 0);
        due.is("feed", x.feed(0x73656120, 0x3520323b, 0x7065616b, 0x20342031, 0x3bff8000), 20);
        due.is("text(17)", x.text(17), 2);
        due.is("peak(0)", x.peak(0), 9);
        due.is("feed", x.feed(0x20202020, 0x202020ff, -1, LOW, BIG), 20);
        due.is("text(20)", x.text(20), -1);
        due.is("fault(0)", x.fault(0), 1);
        due.is("fault(1)", x.fault(1), 7);
        due.is("feed", x.feed(0, 0, 0, 0, 0), 20);
    }

    private static void text() {
        due.in("3 text");
        WhoseWave x = told(TWO + "set 0 1 1 1;rule out;seed 5;law catch 100;");
        x.minutes(1);
        x.note(0, 0, 0);
        x.strike(0);
        x.known(1);
        x.keep();
        x.rule(2);
        x.stroke(1, 3);
        due.is("with a fault", Due.tell(x, "sea 2 1"), -1);
        counts(x, 2, 1, 2, 1, 3, 1, 1, 2, 0, 0, 2, 2, 1, 2);
        due.is("look(0, 1)", Due.look(x, 0, 1), 1);
        due.is("text(-1)", x.text(-1), -2);
        due.is("text(1)", x.text(1), -2);
        Due.feed(x, "surfer q 1 1 1 1 0 0;");
        due.is("text(41)", x.text(41), -2);
        due.is("text(LOW)", x.text(LOW), -2);
        due.is("text(BIG)", x.text(BIG), -2);
        due.is("text(21): the tape stayed", x.text(21), 1);
        counts(x, 6, 4, 1, 0, 0, 0, 0, 0, 0, 0, 0, 0, 0, 0);
        due.is("look(0, 3)", Due.look(x, 0, 3), 0);
        due.is("back()", x.back(), -1);
        due.is("undo()", x.undo(), -1);
        due.is("text(0)", x.text(0), 0);
        counts(x, 6, 4, 0);
        x = told(" \n sea 2 1 ;\n\n peak 1 0; ");
        due.is("peak(0)", x.peak(0), 1);
        x = told("sea2 1;peak1 0;set0 1 2;");
        due.is("count(4)", x.count(4), 2);
        x = told("sea 0008 006;seed 000000000000000099999;");
        counts(x, 8, 6);
    }

    private static void fault() {
        due.in("4 fault");
        WhoseWave x = new WhoseWave();
        Due.tell(x, "seed 1;peak 9 0;");
        due.is("fault(0)", x.fault(0), 2);
        due.is("fault(1)", x.fault(1), 12);
        due.is("fault(2)", x.fault(2), -1);
        due.is("fault(-1)", x.fault(-1), -1);
        due.is("fault(LOW)", x.fault(LOW), -1);
        x.text(5);
        due.is("behind a -2", x.fault(0), 2);
        due.is("behind a -2", x.fault(1), 12);
        Due.tell(x, "seed 1;");
        due.is("without", x.fault(0), 0);
        due.is("without", x.fault(1), -1);
    }

    private static void named() {
        due.in("5 named");
        WhoseWave x = told("surfer a 0 0 1 1 0 0;surfer zz 0 0 1 1 0 0;surfer abcdef 0 0 1 1 0 0;surfer zzzzzz 0 0 1 1 0 0;");
        due.is("a", x.named(1 << 25), 0);
        due.is("zz", x.named(26 << 25 | 26 << 20), 1);
        due.is("abcdef", x.named(1 << 25 | 2 << 20 | 3 << 15 | 4 << 10 | 5 << 5 | 6), 2);
        due.is("zzzzzz", x.named(26 << 25 | 26 << 20 | 26 << 15 | 26 << 10 | 26 << 5 | 26), 3);
        due.is("b", x.named(2 << 25), -1);
        due.is("a, lowest", x.named(1), -1);
        due.is("none", x.named(0), -1);
        due.is("a and 2 to the 31", x.named(1 << 25 | 1 << 31), -1);
        due.is("-1", x.named(-1), -1);
    }

    private static void look() {
        due.in("6 look");
        WhoseWave x = told("sea 3 2;peak 1 1;surfer a 2 0 1 3 0 0;set 0 1;law drift minute;law catch 100;law away 4;");
        int[] first = {2, 0, 0, 0, 3, 2};
        for (int i = 0; i < 6; i++) {
            due.is("look(0, " + i + ")", Due.look(x, 0, i), first[i]);
        }
        x.stroke(0, 3);
        due.is("look(0, 0)", Due.look(x, 0, 0), 1);
        due.is("look(0, 4)", Due.look(x, 0, 4), 2);
        x.minutes(1);
        int[] then = {1, 1, 0, 4, 3, 2};
        for (int i = 0; i < 6; i++) {
            due.is("then look(0, " + i + ")", Due.look(x, 0, i), then[i]);
        }
        x.minutes(2);
        due.is("AWAY till", Due.look(x, 0, 3), 4);
        x.minutes(1);
        due.is("IN again", Due.look(x, 0, 3), 0);
        due.is("no such what", Due.look(x, 0, 6), 2000);
        due.is("no such what", Due.look(x, 0, -1), 2000);
        due.is("no such surfer", Due.look(x, 1, 0), 1000);
        due.is("no such surfer", Due.look(x, -1, 0), 1000);
        due.is("neither", Due.look(x, BIG, 9), 1000);
    }

    private static void wave() {
        due.in("7 wave");
        WhoseWave x = told(TWO + "set 3 7 8;set 99 1 2 3 4 5 6 9;law catch 100;law away 1;");
        int[] second = {4, 8, 0, 2, -2};
        int[] last = {105, 9, 1, 7, -2};
        for (int i = 0; i < 5; i++) {
            due.is("wave(1, " + i + ")", x.wave(1, i), second[i]);
            due.is("wave(8, " + i + ")", x.wave(8, i), last[i]);
        }
        due.is("what 5", x.wave(1, 5), -4);
        due.is("what -1", x.wave(1, -1), -4);
        due.is("wave 9", x.wave(9, 0), -4);
        due.is("wave -1", x.wave(-1, 0), -4);
        x.minutes(3);
        due.is("it is to come", x.wave(0, 4), -2);
        x.minutes(1);
        due.is("had", x.wave(0, 4), 0);
        x.rule(1);
        x.minutes(1);
        due.is("had by turns", x.wave(1, 4), 1);
        x = told("surfer a 0 0 1 1 0 0;set 0 1;law catch 0;");
        x.minutes(1);
        due.is("nobody", x.wave(0, 4), -1);
    }

    private static void peak() {
        due.in("8 peak");
        WhoseWave x = told("sea 5 3;peak 2 1;law drift minute - 3;");
        int[] cells = {5, 5, 6, 7, 8, 9, 9, 9};
        for (int i = 0; i < 8; i++) {
            due.is("peak(" + i + ")", x.peak(i), cells[i]);
        }
        due.is("peak(199)", x.peak(199), 9);
        due.is("peak(200)", x.peak(200), -1);
        due.is("peak(-1)", x.peak(-1), -1);
        x = told("sea 5 3;peak 2 1;law drift 1 / (minute - 4) + 1;");
        due.is("peak(3)", x.peak(3), 7);
        due.is("an error: no drift", x.peak(4), 7);
        due.is("peak(5)", x.peak(5), 9);
        x = told("sea 8 1;law drift far + side + board + size + which + minute;");
        due.is("names that are 0", x.peak(3), 3);
        x = told("sea 8 1;peak 7 0;law drift 0 - 9999;");
        due.is("far left", x.peak(0), 0);
    }

    private static void odds() {
        due.in("9 odds");
        WhoseWave x = told("sea 8 6;peak 1 1;surfer a 0 0 7 1 0 0;set 2 5 6;law drift minute;");
        due.is("at the peak of minute 2", x.odds(0, 0, 11), 100);
        due.is("beside it", x.odds(0, 0, 10), 80);
        due.is("far", x.odds(0, 0, 0), 20);
        due.is("5 far", x.odds(0, 0, 11 + 5 * 1 - 1), 20);
        due.is("farther", x.odds(0, 0, 47), 0);
        due.is("next minute", x.odds(0, 1, 11), 80);
        due.is("no such surfer", x.odds(1, 0, 0), -1);
        due.is("no such wave", x.odds(0, 2, 0), -1);
        due.is("no such cell", x.odds(0, 0, 48), -1);
        due.is("no such cell", x.odds(0, 0, -1), -1);
        x = told("sea 4 4;peak 1 2;surfer a 0 0 7 1 0 0;set 2 5 6;law catch side * 10 + board + far * 1000 * (far = 3);");
        due.is("below 0", x.odds(0, 0, 1), 0);
        due.is("side", x.odds(0, 0, 13), 17);
        due.is("above 100", x.odds(0, 0, 4), 7 * 0);
        due.is("above 100", x.odds(0, 0, 15), 100);
        x = told("sea 4 1;surfer a 0 0 7 1 0 0;set 2 5 6;law catch 10 / (far - 1);");
        due.is("an error", x.odds(0, 0, 1), 80);
        due.is("no error", x.odds(0, 0, 3), 5);
        due.is("cut", x.odds(0, 0, 0), 0);
    }

    private static void law() {
        due.in("10 law");
        long error = Long.MIN_VALUE;
        WhoseWave x = told("sea 4 2;peak 1 0;surfer a 3 1 7 1 0 0;set 2 5 6;"
            + "law catch far * 1000 + side * 100 + board * 10 + size;law away minute * 100 + which * 10 + size + far + side;");
        due.is("catch", x.law(0, 0, 0), 3175);
        due.is("catch", x.law(0, 0, 1), 3176);
        due.is("away", x.law(1, 0, 0), 215);
        due.is("away", x.law(1, 0, 1), 326);
        due.is("no law of drift", x.law(2, 0, 0), error);
        due.is("no such law", x.law(3, 0, 0), error);
        due.is("no such law", x.law(-1, 0, 0), error);
        due.is("no such surfer", x.law(0, 1, 0), error);
        due.is("no such surfer", x.law(1, -1, 0), error);
        due.is("no such wave", x.law(0, 0, 2), error);
        due.is("no such wave", x.law(1, 0, -1), error);
        x.minutes(9);
        due.is("a wave that was", x.law(1, 0, 0), 215);
        x = told("law drift 0 - minute * 5000;");
        x.minutes(3);
        due.is("drift of this minute", x.law(2, 0, 0), -15000);
    }

    private static void stroke() {
        due.in("11 stroke");
        WhoseWave x = told("sea 3 3;surfer a 1 1 1 3 0 0;surfer b 0 0 1 1 0 0;set 0 1 1 1;law catch board * (1 - side);law away 2;seed 2;");
        due.is("up", x.stroke(0, 0), 1);
        due.is("outside", x.stroke(0, 0), -2);
        due.is("right", x.stroke(0, 1), 2);
        due.is("outside", x.stroke(0, 1), -2);
        due.is("down", x.stroke(0, 2), 5);
        due.is("no strokes left", x.stroke(0, 3), -2);
        due.is("left, outside", x.stroke(1, 3), -2);
        due.is("down", x.stroke(1, 2), 3);
        x.minutes(1);
        due.is("left", x.stroke(0, 3), 4);
        due.is("no such way", x.stroke(0, 4), -1);
        due.is("no such way", x.stroke(0, -1), -1);
        due.is("no such surfer", x.stroke(2, 0), -1);
        due.is("no such surfer", x.stroke(-1, 0), -1);
        x = told(TWO + "set 0 1;law catch 100;law away 2;");
        x.minutes(1);
        due.is("AWAY", x.stroke(0, 1), -2);
        x.minutes(1);
        due.is("IN again", x.stroke(0, 1), 1);
        x = told("sea 1 1;surfer a 0 0 1 3 0 0;");
        for (int way = 0; way < 4; way++) {
            due.is("outside", x.stroke(0, way), -2);
        }
    }

    private static void rule() {
        due.in("12 rule");
        WhoseWave x = told("rule turns;");
        due.is("it is so", x.rule(1), false);
        due.is("each", x.rule(2), true);
        due.is("count(7)", x.count(7), 2);
        due.is("out", x.rule(3), true);
        due.is("deep", x.rule(0), true);
        due.is("no such one", x.rule(4), false);
        due.is("no such one", x.rule(-1), false);
        due.is("count(7)", x.count(7), 0);
        due.is("count(13)", x.count(13), 3);
    }

    private static void minutes() {
        due.in("13 minutes");
        WhoseWave x = new WhoseWave();
        due.is("0", x.minutes(0), 0);
        due.is("99", x.minutes(99), 99);
        due.is("100", x.minutes(100), -1);
        due.is("-1", x.minutes(-1), -1);
        due.is("99", x.minutes(99), 198);
        due.is("behind 199", x.minutes(2), -1);
        due.is("199", x.minutes(1), 199);
        due.is("behind 199", x.minutes(1), -1);
        due.is("0", x.minutes(0), 199);
        due.is("BIG", x.minutes(BIG), -1);
    }

    // The first numbers from seed 1, modulo 100: 38, 58, 13, 15, 51, 27, 10, 19, 12, 86.
    private static void numbers() {
        due.in("13 numbers of a minute");
        String one = "sea 1 1;seed 1;surfer a 0 0 1 1 0 0;";
        WhoseWave x = told(one + "set 0 1;law catch 39;");
        x.minutes(1);
        due.is("38 is below 39", x.wave(0, 4), 0);
        x = told(one + "set 0 1;law catch 38;");
        x.minutes(1);
        due.is("38 is not below 38", x.wave(0, 4), -1);
        due.is("WASTED", x.count(9), 1);
        String three = one + "surfer b 0 0 1 1 0 0;surfer c 0 0 1 1 ";
        x = told(three + "58 0;set 0 1;law catch 58;");
        x.minutes(1);
        due.is("58 is not below BOLD 58", x.wave(0, 4), 0);
        x = told(three + "59 0;set 0 1 1;law catch 58;law away 2;");
        x.minutes(1);
        due.is("58 is below BOLD 59", x.wave(0, 4), -3);
        int[] crossed = {1, 0, 1};
        int[] till = {4, 0, 4};
        for (int i = 0; i < 3; i++) {
            due.is("CROSSED", Due.look(x, i, 2), crossed[i]);
            due.is("had", Due.look(x, i, 1), 0);
            due.is("AWAY twice as long", Due.look(x, i, 3), till[i]);
        }
        due.is("WAVES CROSSED", x.count(8), 1);
        due.is("WASTED", x.count(9), 0);
        x.minutes(1);
        due.is("13 is below 58", x.wave(1, 4), 1);
        due.is("AWAY", Due.look(x, 1, 3), 3);
        x.minutes(2);
        due.is("IN again", Due.look(x, 0, 3), 0);
        x = told(one + "surfer b 0 0 1 1 0 0;set 0 1;law catch 38 * (which = 1) + (board = 2) * 60;");
        x.minutes(1);
        due.is("neither", x.wave(0, 4), -1);
        x = told(one + "surfer b 0 0 2 1 0 0;set 0 1;law catch 38 + (board = 2) * 21;");
        x.minutes(1);
        due.is("58 is below 59", x.wave(0, 4), 1);
        x = told("sea 1 1;surfer a 0 0 1 1 0 0;set 0 1;law catch 1;");
        x.minutes(1);
        due.is("the first number from seed 0 is 0: below ODDS 1", x.wave(0, 4), 0);
        x = told("sea 1 1;seed 80;surfer a 0 0 1 1 0 0;surfer b 0 0 1 1 1 0;set 0 1;law catch 100;");
        x.minutes(1);
        due.is("the second number from seed 80 is 0: below BOLD 1", x.wave(0, 4), -3);
        x = told(one + "set 0 1;law catch 100;law away 1 / 0;");
        x.minutes(1);
        due.is("an error of away", Due.look(x, 0, 3), 5);
        x = told(one + "set 0 1;law catch 100;law away 31;");
        x.minutes(1);
        due.is("30 at most", Due.look(x, 0, 3), 30);
        x = told(one + "set 0 1 1;law catch 100;law away 0 - 1;");
        x.minutes(1);
        due.is("1 at least", Due.look(x, 0, 3), 0);
        x.minutes(1);
        due.is("IN for the next one", x.wave(1, 4), 0);
    }

    private static void order() {
        due.in("14 order");
        WhoseWave x = told(FOUR + "surfer e 0 0 1 1 0 0;set 0 5 5;law away 1;");
        order(x, 0, 1, 2, 3, 0, -2, -2);
        x.rule(1);
        order(x, 0, 0, 1, 2, 3, -2);
        x.rule(2);
        order(x, 0, 1, 2, 3, 0, -2);
        x.rule(3);
        order(x, 0, 2, 0, 1, 3, -2);
        due.is("k -1", x.order(0, -1), -1);
        due.is("k BIG", x.order(0, BIG), -2);
        due.is("no such wave", x.order(2, 0), -1);
        due.is("no such wave", x.order(-1, 0), -1);
        x.rule(0);
        x.minutes(1);
        due.is("who had it", x.wave(0, 4), 1);
        due.is("it is not to come", x.order(0, 0), -1);
        order(x, 1, 1, 2, 3, 0, -2);
        x.rule(1);
        order(x, 1, 0, 2, 3, 1, -2);
        x.rule(2);
        order(x, 1, 2, 3, 0, 1, -2);
        x = told(FOUR + "set 0 5 5;set 9 5;law away 3;");
        x.minutes(1);
        order(x, 1, 2, 3, 0, -2);
        x.rule(2);
        order(x, 2, 2, 3, 0, -2);
        x.minutes(2);
        order(x, 2, 1);
    }

    private static void deeper() {
        due.in("15 deeper");
        WhoseWave x = told(FOUR + "law drift 0 - minute;");
        due.is("a, b", x.deeper(0, 1), 2);
        due.is("b, a", x.deeper(1, 0), 1);
        due.is("c, d", x.deeper(2, 3), 0);
        due.is("c, c", x.deeper(2, 2), 0);
        x.minutes(3);
        due.is("when it has drifted", x.deeper(0, 1), 1);
        due.is("none", x.deeper(4, 0), -1);
        due.is("none", x.deeper(0, 4), -1);
        due.is("none", x.deeper(-1, -1), -1);
    }

    private static void seat() {
        due.in("16 seat");
        WhoseWave x = told("sea 3 1;surfer a 2 0 1 1 0 0;set 0 3 4;set 5 2;law drift minute;law away 1;");
        due.is("cell 0", x.seat(0, 0), 300 + 320 + 120);
        due.is("cell 2", x.seat(0, 2), 180 + 320 + 200);
        x.minutes(1);
        due.is("this minute's too", x.seat(0, 2), 320 + 200);
        x.minutes(1);
        due.is("to come", x.seat(0, 2), 200);
        x.minutes(4);
        due.is("none to come", x.seat(0, 2), 0);
        due.is("none", x.seat(0, 3), -1);
        due.is("none", x.seat(0, -1), -1);
        due.is("none", x.seat(1, 0), -1);
        due.is("none", x.seat(-1, 0), -1);
    }

    private static void best() {
        due.in("17 best");
        WhoseWave x = told("sea 3 2;peak 1 1;surfer a 2 0 1 1 0 0;set 1 3 4;law drift minute - 1;");
        due.is("the peak of the larger one", x.best(0), 5);
        x.minutes(3);
        due.is("the first of several", x.best(0), 0);
        due.is("none", x.best(1), -1);
        due.is("none", x.best(-1), -1);
        x = told("sea 3 2;surfer a 2 0 1 1 0 0;set 1 3;law catch 50;");
        due.is("the first of several", x.best(0), 0);
    }

    private static void rests() {
        due.in("18 rests, 19 rest");
        WhoseWave x = told("sea 3 1;peak 1 0;surfer a 0 0 1 1 0 0;surfer b 2 0 1 1 0 0;set 0 1;");
        due.is("rests", x.rests(0, 1), 2);
        due.is("first", x.rest(0, 1, 0), 14);
        due.is("second", x.rest(0, 1, 1), 13);
        due.is("no so many", x.rest(0, 1, 2), -2);
        due.is("no so many", x.rest(0, 1, BIG), -2);
        due.is("k -1", x.rest(0, 1, -1), -1);
        due.is("the other way round", x.rests(1, 0), 2);
        due.is("the other way round", x.rest(1, 0, 0), 41);
        due.is("the other way round", x.rest(1, 0, 1), 31);
        int[][] wrong = {{0, 0}, {1, 1}, {0, 2}, {2, 0}, {-1, 0}, {0, -1}, {5, 6}};
        for (int[] pair : wrong) {
            due.is("rests", x.rests(pair[0], pair[1]), -1);
            due.is("rest", x.rest(pair[0], pair[1], 0), -1);
        }
        x.minutes(1);
        due.is("no waves to come: all", x.rests(0, 1), 4);
        int[] all = {44, 43, 14, 13, -2};
        for (int i = 0; i < 5; i++) {
            due.is("no waves to come", x.rest(0, 1, i), all[i]);
        }
        x = told("sea 3 3;surfer a 1 1 1 1 0 0;surfer b 1 1 1 1 0 0;");
        due.is("without waves", x.rests(0, 1), 25);
        due.is("without waves", x.rest(0, 1, 5), 4);
        due.is("without waves", x.rest(0, 1, 24), 33);
    }

    private static void rank() {
        due.in("20 rank");
        WhoseWave x = told("set 0 3 5 5;set 10 9 1;set 20 1 2 3;");
        int[] largest = {1, 1, 2, 0, 0, 0, 0};
        int[] of = {3, 3, 2, 0, 0, 0, 0};
        for (int k = 1; k <= 7; k++) {
            due.is("rank(" + k + ", 0)", x.rank(k, 0), largest[k - 1]);
            due.is("rank(" + k + ", 1)", x.rank(k, 1), of[k - 1]);
        }
        due.is("k 0", x.rank(0, 0), -1);
        due.is("k 8", x.rank(8, 1), -1);
        due.is("what 2", x.rank(1, 2), -1);
        due.is("what -1", x.rank(1, -1), -1);
        x.minutes(30);
        due.is("of waves that were, too", x.rank(3, 1), 2);
    }

    private static void plan() {
        due.in("21 plan, 22 planned");
        String one = "sea 1 1;surfer a 0 0 1 1 0 0;";
        WhoseWave x = told(one + "set 0 4 4 4;law away 2;");
        due.is("plan", x.plan(0), 800);
        int[] waves = {0, 2, -2};
        for (int i = 0; i < 3; i++) {
            due.is("planned", x.planned(0, i), waves[i]);
        }
        due.is("k -1", x.planned(0, -1), -1);
        due.is("no such surfer", x.plan(1), -1);
        due.is("no such surfer", x.plan(-1), -1);
        due.is("no such surfer", x.planned(1, 0), -1);
        x.minutes(1);
        due.is("the one of this minute", x.planned(0, 0), 1);
        due.is("plan", x.plan(0), 400);
        x = told(one + "set 0 4 4 4;law away 3;");
        due.is("the first of several", x.planned(0, 0), 0);
        due.is("the first of several", x.planned(0, 1), -2);
        x = told(one + "set 0 4 4 5;law away 3;");
        due.is("the greatest", x.planned(0, 0), 2);
        x = told(one + "set 0 4 4 5;law catch 0;law away 1;");
        due.is("of nothing", x.plan(0), 0);
        due.is("rather than not", x.planned(0, 2), 2);
        x = told(one + "set 0 2 1 1 3;law away which;");
        due.is("by as much as away is of that wave", x.plan(0), 600);
        int[] then = {0, 1, 3, -2};
        for (int i = 0; i < 4; i++) {
            due.is("planned", x.planned(0, i), then[i]);
        }
        x = told(one);
        due.is("no waves", x.plan(0), 0);
        due.is("no waves", x.planned(0, 0), -2);
    }

    private static void go() {
        due.in("23 go");
        WhoseWave x = told("sea 3 1;surfer a 0 0 1 1 0 0;surfer b 1 0 1 1 50 0;surfer c 2 0 1 1 33 0;set 0 5 5;");
        due.is("500 and 7 times 67", x.go(0, 0, 7), 1);
        due.is("500 and 8 times 67", x.go(0, 0, 8), 0);
        due.is("400 and 12 times 33", x.go(1, 0, 12), 1);
        due.is("400 and 13 times 33", x.go(1, 0, 13), 0);
        due.is("none behind", x.go(2, 0, 999), 1);
        due.is("cost 0", x.go(0, 1, 0), 1);
        due.is("cost 1000", x.go(0, 0, 1000), -1);
        due.is("cost -1", x.go(0, 0, -1), -1);
        due.is("no such surfer", x.go(3, 0, 0), -1);
        due.is("no such wave", x.go(0, 2, 0), -1);
        x.rule(3);
        due.is("out, all alike", x.go(0, 0, 8), 0);
        x = told("sea 8 1;surfer a 7 0 1 1 0 0;set 0 5 5;");
        due.is("no odds", x.go(0, 0, 0), 0);
        x.minutes(1);
        due.is("it is not to come", x.go(0, 0, 0), -1);
        x = told("sea 3 1;surfer a 0 0 1 1 0 0;surfer b 1 0 1 1 100 0;set 0 5 5;law catch 100;");
        due.is("just as much", x.go(0, 0, 5), 0);
        due.is("more", x.go(0, 0, 4), 1);
    }

    private static void give() {
        due.in("24 give");
        WhoseWave x = told("surfer a 0 0 1 1 0 50;surfer b 0 0 1 1 0 51;");
        due.is("to b", x.give(0, 1, 2), 1);
        due.is("to a: no more than 100", x.give(1, 0, 2), 0);
        due.is("to a", x.give(1, 0, 3), 1);
        due.is("n 0", x.give(0, 1, 0), 0);
        due.is("n 99", x.give(0, 1, 99), 1);
        due.is("n 100", x.give(0, 1, 100), -1);
        due.is("n -1", x.give(0, 1, -1), -1);
        due.is("alike", x.give(1, 1, 1), -1);
        due.is("none", x.give(0, 2, 1), -1);
        due.is("none", x.give(-1, 0, 1), -1);
    }

    private static void table() {
        due.in("25 table");
        WhoseWave x = told(TWO + "set 0 1 1 1 1;law catch 100;law away 1;");
        int[][] rules = {{4, 0, 4}, {2, 2, 0}, {3, 1, 2}, {4, 0, 4}};
        for (int rule = 0; rule < 4; rule++) {
            due.is("a", x.table(rule, 3, 0), rules[rule][0]);
            due.is("b", x.table(rule, 3, 1), rules[rule][1]);
            due.is("c", x.table(rule, 3, 2), -1);
            due.is("CROSSED", x.table(rule, 3, 5), 0);
            due.is("WASTED", x.table(rule, 3, 6), 0);
            due.is("UNLIKE", x.table(rule, BIG, 7), rules[rule][2]);
        }
        due.is("nothing went by", x.count(6), 0);
        due.is("nobody had any", x.shares(1), 0);
        due.is("rule 4", x.table(4, 0, 5), -1);
        due.is("rule -1", x.table(-1, 0, 5), -1);
        due.is("seed -1", x.table(0, -1, 5), -1);
        due.is("what 8", x.table(0, 0, 8), -1);
        due.is("what -1", x.table(0, 0, -1), -1);
        x.minutes(2);
        due.is("had till now, too", x.table(0, 0, 0), 4);
        due.is("b by turns", x.table(1, 0, 1), 2);
        x = told("sea 2 1;surfer a 0 0 1 1 0 0;surfer b 1 0 1 1 100 0;set 0 1 1 1;law catch 100;law away 1;");
        due.is("CROSSED in it", x.table(0, 0, 5), 2);
        due.is("WASTED in it", x.table(0, 0, 6), 1);
        x.minutes(2);
        due.is("CROSSED in it", x.table(0, 0, 5), 1);
        due.is("WASTED in it", x.table(0, 0, 6), 0);
        x = told("set 0 1 1;");
        due.is("nobody there", x.table(0, 0, 6), 2);
        due.is("nobody there", x.table(0, 0, 7), 0);
    }

    private static void fairest() {
        due.in("26 fairest");
        WhoseWave x = told(TWO + "set 0 1 1 1 1;law catch 100;law away 1;");
        due.is("turns", x.fairest(0), 1);
        due.is("seed BIG", x.fairest(BIG), 1);
        due.is("seed -1", x.fairest(-1), -1);
        due.is("seed LOW", x.fairest(LOW), -1);
        x = told("sea 2 2;surfer a 0 1 1 1 100 0;surfer b 0 0 1 1 0 0;set 0 1;law catch 100;law away 1;");
        due.is("alike by being crossed", x.fairest(0), 0);
        x = told("sea 2 2;surfer a 0 0 1 1 0 0;set 0 1 1;");
        due.is("the first of several", x.fairest(0), 0);
        x = told("sea 2 2;surfer a 0 0 1 1 0 0;surfer b 0 1 1 1 100 0;set 0 1 1;law catch 100;law away 2;");
        due.is("deep: a, crossed", x.table(0, 0, 5), 1);
        due.is("deep: wasted", x.table(0, 0, 6), 1);
        due.is("deep", x.table(0, 0, 7), 0);
        due.is("out: b, then a", x.table(3, 0, 7), 0);
        due.is("out: none lost", x.table(3, 0, 5) + x.table(3, 0, 6), 0);
        due.is("fewest lost of those alike", x.fairest(0), 3);
    }

    private static void over() {
        due.in("27 over");
        String sea = "sea 1 1;surfer a 0 0 1 1 0 0;set 0 5;set 8 4;";
        WhoseWave x = told(sea + "bank 1 3 2;");
        due.is("900 here and 600 there, then 400 and 600", x.over(0), 1);
        x = told(sea + "bank 2 3 2;");
        due.is("900 and 600, then 400 and 400: not more", x.over(0), -2);
        x = told(sea + "bank 8 20 9;");
        due.is("9 and 9: as much", x.over(0), -2);
        x = told("sea 1 1;surfer a 0 0 1 1 0 0;set 0 5;set 8 3;bank 8 20 9;");
        due.is("9 and 8", x.over(0), 0);
        x = told("sea 1 1;surfer a 0 0 1 1 0 0;set 0 5;set 8 3;bank 7 20 9;");
        due.is("from now on", x.over(0), 0);
        x.minutes(1);
        due.is("from now on", x.over(0), 1);
        x.minutes(1);
        due.is("too late", x.over(0), -2);
        x.minutes(20);
        due.is("behind the last one", x.over(0), -2);
        x = told("sea 1 1;surfer a 0 0 1 1 0 0;set 9 4;bank 5 1 1;");
        due.is("one each minute: 5 and 4", x.over(0), 0);
        x.minutes(1);
        due.is("4 and 4", x.over(0), -2);
        x = told("sea 2 1;surfer a 1 0 1 1 0 0;set 0 9;set 5 9;bank 5 1 9;law catch 0;");
        due.is("0 and 9", x.over(0), 0);
        x.minutes(1);
        due.is("0 and 0", x.over(0), -2);
        due.is("none", x.over(1), -1);
        due.is("none", x.over(-1), -1);
        due.is("no bank", told(sea).over(0), -1);
        due.is("no waves", told("surfer a 0 0 1 1 0 0;bank 1 1 1;").over(0), -1);
        due.is("no surfer", told("set 0 1;bank 1 1 1;").over(0), -1);
    }

    private static void next() {
        due.in("28 next");
        WhoseWave x = told("set 2 5 5;set 8 1;");
        int[] till = {2, 1, 0, 5, 4, 3, 2, 1, 0, -2, -2};
        for (int minute = 0; minute <= 10; minute++) {
            due.is("next() at " + minute, x.next(), till[minute]);
            x.minutes(1);
        }
        due.is("no sets", new WhoseWave().next(), -2);
    }

    private static void gaps() {
        due.in("29 gaps");
        WhoseWave x = told("set 2 5 5;set 4 1;set 9 1 1 1;set 99 1;");
        int[][] few = {{0, 0}, {1, 1}, {4, 1}, {5, 2}, {87, 2}, {88, 3}, {99, 3}};
        for (int[] pair : few) {
            due.is("gaps(" + pair[0] + ", 0)", x.gaps(pair[0], 0), pair[1]);
            due.is("gaps(" + pair[0] + ", 1)", x.gaps(pair[0], 1), 3);
        }
        due.is("k 100", x.gaps(100, 0), -1);
        due.is("k -1", x.gaps(-1, 1), -1);
        due.is("what 2", x.gaps(0, 2), -1);
        due.is("what -1", x.gaps(0, -1), -1);
        due.is("one set", told("set 0 1;").gaps(99, 1), 0);
    }

    private static void shares() {
        due.in("30 shares");
        WhoseWave x = told(TWO + "set 0 1 1 1;law catch 100;law away 1;");
        due.is("at first", x.shares(0), 0);
        x.minutes(2);
        due.is("2 and 0", x.shares(0), 2);
        x.rule(1);
        x.minutes(1);
        due.is("2 and 1", x.shares(0), 1);
        due.is("in sum", x.shares(1), 3);
        due.is("what 2", x.shares(2), -1);
        due.is("what -1", x.shares(-1), -1);
        x = told("sea 1 1;surfer a 0 0 1 1 0 0;set 0 1;");
        x.minutes(1);
        due.is("one surfer", x.shares(0), 0);
        due.is("one surfer", x.shares(1), 1);
        due.is("no surfers", told("set 0 1;").shares(1), -1);
        due.is("no surfers", told("set 0 1;").shares(0), -1);
    }

    private static void notes() {
        due.in("31 note, 32 strike");
        WhoseWave x = told("sea 2 2;surfer a 0 0 1 1 0 0;set 5 1;");
        due.is("note", x.note(0, 0, 0), 0);
        due.is("note", x.note(199, 0, 3), 1);
        due.is("strike", x.strike(1), 2);
        due.is("strike of a strike", x.strike(2), 3);
        due.is("strike twice", x.strike(1), 4);
        due.is("no such note", x.strike(5), -1);
        due.is("no such note", x.strike(-1), -1);
        due.is("minute 200", x.note(200, 0, 0), -1);
        due.is("minute -1", x.note(-1, 0, 0), -1);
        due.is("no such surfer", x.note(0, 1, 0), -1);
        due.is("no such surfer", x.note(0, -1, 0), -1);
        due.is("no such cell", x.note(0, 0, 4), -1);
        due.is("no such cell", x.note(0, 0, -1), -1);
        for (int i = 5; i < 24; i++) {
            due.is("note " + i, i % 2 == 0 ? x.note(1, 0, 1) : x.strike(0), i);
        }
        due.is("a 25th", x.note(0, 0, 0), -1);
        due.is("a 25th", x.strike(0), -1);
        due.is("count(11)", x.count(11), 24);
    }

    private static void known() {
        due.in("33 known");
        WhoseWave x = told(TWO + "set 5 1;");
        due.is("0 of 0", x.known(0), true);
        due.is("1 of 0", x.known(1), false);
        due.is("-2", x.known(-2), false);
        due.is("LOW", x.known(LOW), false);
        due.is("-1", x.known(-1), true);
        x.note(0, 0, 0);
        due.is("by all, count(12)", x.count(12), 1);
        due.is("by all", x.locals(0), 1);
        due.is("1 of 1", x.known(1), true);
        x.note(0, 1, 0);
        due.is("by 1", x.locals(0), 1);
        due.is("by 1, count(12)", x.count(12), 1);
        due.is("-1", x.known(-1), true);
        due.is("by all", x.locals(0), 3);
        x.strike(0);
        x.strike(2);
        due.is("a strike that is struck", x.locals(0), 3);
        x.known(3);
        due.is("by 3", x.locals(0), 2);
        x.known(4);
        x.strike(3);
        due.is("by 4", x.locals(0), 3);
        x.known(5);
        due.is("by 5", x.locals(0), 2);
        x.known(0);
        due.is("by none", x.locals(12), 0);
        due.is("by none, count(12)", x.count(12), 0);
        due.is("6 of 5", x.known(6), false);
        due.is("it stays", x.count(12), 0);
    }

    private static void locals() {
        due.in("34 locals");
        WhoseWave x = told("sea 8 6;peak 2 0;surfer a 0 0 1 1 0 0;surfer b 0 0 1 1 0 0;set 3 1 1;set 9 1;law drift minute - 3;");
        x.note(0, 0, 3);
        due.is("1 far of minute 3", x.locals(0), 0);
        due.is("1 far of minute 3", x.locals(1), 1);
        x.note(3, 1, 2);
        due.is("at the first wave", x.locals(0), 2);
        x.note(4, 0, 7);
        due.is("ahead of the next set", x.locals(1), 1 + 2);
        x.note(9, 1, 15);
        due.is("each: 1 far, too", x.locals(0), 0);
        due.is("each: 1 far, too", x.locals(1), 3);
        x.note(10, 0, 47);
        due.is("behind all sets", x.locals(1), 3);
        x.note(8, 0, 40);
        due.is("each: 12 far", x.locals(11), 2);
        due.is("each: 12 far", x.locals(12), 3);
        due.is("d 13", x.locals(13), -1);
        due.is("d -1", x.locals(-1), -1);
        x = told("surfer a 0 0 1 1 0 0;set 3 1;");
        x.note(4, 0, 0);
        due.is("none that counts", x.locals(12), 0);
        due.is("no surfers", new WhoseWave().locals(12), 0);
    }

    private static void chance() {
        due.in("35 chance");
        WhoseWave x = told("sea 1 1;surfer a 0 0 1 1 0 0;set 0 1;law catch 40;");
        due.is("seven of ten numbers are below 40", x.chance(1, 0, 1), 7);
        due.is("n 0", x.chance(1, 0, 0), 10);
        due.is("n 2", x.chance(1, 0, 2), 0);
        due.is("n 28", x.chance(BIG, 0, 28), 0);
        due.is("n 29", x.chance(1, 0, 29), -1);
        due.is("n -1", x.chance(1, 0, -1), -1);
        due.is("seed -1", x.chance(-1, 0, 1), -1);
        due.is("no such surfer", x.chance(1, 1, 1), -1);
        due.is("no such surfer", x.chance(1, -1, 1), -1);
        x = told(TWO + "set 0 1 1;law catch 100;law away 1;");
        due.is("deep", x.chance(0, 1, 1), 0);
        x.rule(1);
        due.is("by the rule of now", x.chance(0, 1, 1), 10);
        x.minutes(2);
        due.is("had till now", x.chance(0, 1, 1), 10);
    }

    private static void tried() {
        due.in("36 tried");
        WhoseWave x = told("sea 2 1;surfer a 0 0 1 1 0 0;surfer b 1 0 1 1 100 0;set 0 1 1;law catch 100;law away 1;");
        due.is("nobody is bold", x.tried(0, 0, 0), 2);
        due.is("a isn't there", x.tried(1, 0, 0), 2);
        due.is("b isn't there", x.tried(1, 1, 0), 2);
        due.is("no drift: as it is", x.tried(2, 0, 0), 0);
        due.is("boards: as it is", x.tried(3, 0, 0), 0);
        due.is("all sit there: as it is", x.tried(4, 1, 0), 0);
        int[][] wrong = {{-1, 0, 0}, {5, 0, 0}, {0, 1, 0}, {2, 1, 0}, {3, -1, 0}, {1, 2, 0}, {1, -1, 0}, {4, 2, 0}, {0, 0, -1}, {1, 0, LOW}};
        for (int[] w : wrong) {
            due.is("tried(" + w[0] + ", " + w[1] + ", " + w[2] + ")", x.tried(w[0], w[1], w[2]), -1);
        }
        x = told("sea 2 1;surfer a 1 0 1 1 100 0;surfer b 0 0 1 1 0 0;set 0 1 1;law catch 100;law away 1;");
        due.is("a is bold", x.tried(2, 0, 0), 0);
        due.is("nobody is bold", x.tried(0, 0, 0), 2);
        x.minutes(1);
        due.is("CROSSED: none is there", x.tried(0, 0, 0), 0);
        x = told("sea 2 1;surfer a 0 0 1 1 0 0;surfer b 1 0 1 1 0 0;set 0 1 1;law catch 100;law away 1;");
        x.minutes(1);
        due.is("had till now, too", x.tried(0, 0, 0), 2);
        due.is("what a had till now stays in the sum", x.tried(1, 0, 0), 2);
        due.is("a goes for both if b is left out", x.tried(1, 1, 0), 2);
        x.minutes(1);
        due.is("all WAVES are behind: had by a", x.tried(1, 0, 0), 2);
        due.is("all WAVES are behind: had by b", x.tried(1, 1, 0), 2);
        x = told("sea 2 1;surfer a 0 0 1 1 0 0;set 2 1 1 1;law catch 100;law away 1;");
        due.is("nobody is there for any", x.tried(1, 0, 0), 0);
        x.minutes(3);
        due.is("a had one, nobody is there for the others", x.tried(1, 0, 0), 1);
        due.is("that was tried alone", x.tried(0, 0, 0), 3);
        x.minutes(1);
        due.is("a had two", x.tried(1, 0, 0), 2);
        x = told("sea 8 1;surfer a 2 0 1 1 0 0;set 0 1;law catch 100 - far * 100;law drift 2;");
        due.is("as it is", x.table(0, 0, 0), 1);
        due.is("no drift", x.tried(2, 0, 0), 0);
        due.is("the peak drifts all the same then", x.peak(0), 2);
        x = told("sea 8 1;surfer a 2 0 1 1 0 0;set 0 1;law catch (board = 9) * 100;");
        due.is("as it is", x.table(0, 0, 0), 0);
        due.is("boards 9", x.tried(3, 0, 0), 1);
        due.is("as it was", x.table(0, 0, 0), 0);
        x = told("sea 8 1;surfer a 0 0 1 1 0 0;surfer b 7 0 1 1 0 0;set 0 1 1;law catch 100 * (far = 0);");
        due.is("as it is", x.tried(0, 0, 0), 1);
        due.is("all at a's", x.tried(4, 0, 0), 2);
        due.is("all at b's", x.tried(4, 1, 0), 0);
        due.is("they sit where they sat", Due.look(x, 1, 0), 7);
    }

    private static void undo() {
        due.in("37 undo");
        WhoseWave x = told("sea 3 1;surfer a 0 0 1 3 0 0;");
        x.stroke(0, 1);
        x.rule(3);
        x.stroke(0, 1);
        due.is("count(13)", x.count(13), 3);
        due.is("the stroke", x.undo(), 2);
        due.is("where it was", Due.look(x, 0, 0), 1);
        due.is("a stroke more", Due.look(x, 0, 4), 2);
        due.is("the rule", x.undo(), 1);
        due.is("deep", x.count(7), 0);
        due.is("minutes(0)", x.minutes(0), 0);
        due.is("the first stroke", x.undo(), 0);
        due.is("none", x.undo(), -1);
        due.is("where it was", Due.look(x, 0, 0), 0);
        x.stroke(0, 1);
        x.minutes(1);
        due.is("a minute went by", x.undo(), -1);
        x = told("sea 3 1;surfer a 0 0 1 3 0 0;");
        for (int i = 0; i < 25; i++) {
            x.rule(i % 2 == 0 ? 1 : 2);
        }
        due.is("20 at most", x.count(13), 20);
        for (int i = 19; i >= 0; i--) {
            due.is("undo", x.undo(), i);
        }
        due.is("the latest 20", x.count(7), 1);
        due.is("none", x.undo(), -1);
        x = told("sea 3 1;surfer a 0 0 1 3 0 0;");
        x.stroke(0, 1);
        x.rule(1);
        x.stroke(0, 1);
        for (int i = 0; i < 18; i++) {
            x.rule(i % 2 == 0 ? 2 : 1);
        }
        for (int i = 0; i < 20; i++) {
            x.undo();
        }
        due.is("21 behind one another: the first stays", Due.look(x, 0, 0), 1);
        due.is("21 behind one another: the rule is undone", x.count(7), 0);
        x = told("sea 3 1;surfer a 0 0 1 3 0 0;");
        for (int i = 0; i < 19; i++) {
            x.rule(i % 2 == 0 ? 2 : 1);
        }
        x.stroke(0, 1);
        x.rule(3);
        for (int i = 0; i < 20; i++) {
            x.undo();
        }
        due.is("the stroke among them is undone", Due.look(x, 0, 0), 0);
        due.is("the first rule of them stays", x.count(7), 2);
    }

    private static void images() {
        due.in("38 keep, 39 back");
        WhoseWave x = told(TWO + "seed 1;set 0 1 1;set 5 1 1;law catch 50;law away 1;");
        due.is("none", x.back(), -1);
        x.minutes(1);
        due.is("had", x.wave(0, 4), 0);
        x.rule(3);
        x.stroke(0, 1);
        due.is("keep", x.keep(), 1);
        due.is("what can be undone", x.count(13), 2);
        x.note(0, 0, 0);
        x.minutes(1);
        int second = x.wave(1, 4);
        x.minutes(8);
        due.is("back", x.back(), 1);
        due.is("nothing to undo", x.count(13), 0);
        due.is("undo", x.undo(), -1);
        due.is("the rule", x.count(7), 3);
        due.is("to come", x.count(10), 3);
        due.is("notes stay", x.count(11), 1);
        due.is("had", x.wave(0, 4), 0);
        due.is("to come", x.wave(1, 4), -2);
        due.is("where a sits", Due.look(x, 0, 0), 1);
        due.is("strokes left", Due.look(x, 0, 4), 0);
        due.is("shares", x.shares(1), 1);
        x.minutes(1);
        due.is("the same numbers", x.wave(1, 4), second);
        due.is("back once more", x.back(), 1);
        x.minutes(4);
        due.is("in place of it", x.keep(), 5);
        x.minutes(4);
        due.is("back", x.back(), 5);
        Due.tell(x, "no;");
        due.is("a fault: it stays", x.back(), 5);
        Due.tell(x, "seed 2;");
        due.is("a text: none", x.back(), -1);
    }

    private static void count() {
        due.in("40 count");
        WhoseWave x = told("sea 5 3;surfer a 0 0 1 1 0 0;surfer b 0 0 1 1 100 0;set 0 1 1;set 3 1;set 7 1 2 3;rule out;"
            + "law catch 100 * (not (far > 9 or side < 0));law drift minute;law away 1;");
        counts(x, 5, 3, 2, 3, 6, 12, 0, 3, 0, 0, 6, 0, 0, 0, -1);
        x.note(0, 0, 0);
        x.note(0, 0, 0);
        x.known(1);
        x.rule(0);
        counts(x, 5, 3, 2, 3, 6, 12, 0, 0, 0, 0, 6, 2, 1, 1, -1);
        x.minutes(2);
        counts(x, 5, 3, 2, 3, 6, 12, 2, 0, 1, 1, 4, 2, 1, 0, -1);
        due.is("-1", x.count(-1), -1);
        due.is("BIG", x.count(BIG), -1);
    }

    public static void main(String[] args) {
        newObject();
        feed();
        text();
        fault();
        named();
        look();
        wave();
        peak();
        odds();
        law();
        stroke();
        rule();
        minutes();
        numbers();
        order();
        deeper();
        seat();
        best();
        rests();
        rank();
        plan();
        go();
        give();
        table();
        fairest();
        over();
        next();
        gaps();
        shares();
        notes();
        known();
        locals();
        chance();
        tried();
        undo();
        images();
        count();
        due.end();
    }
}
