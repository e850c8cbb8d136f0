/** Bounds of the TAPE and of TOKENS (promises 1 to 5; Terms, part 1): at each bound, and one step beyond it on each side. */
public final class TapeBoundsTest {
    private static final Due due = new Due();
    private static final String ALL_LINES = "sea 8 6;peak 7 5;surfer a 0 0 1 1 0 0;surfer b 0 0 1 1 0 0;surfer c 0 0 1 1 0 0;surfer d 0 0 1 1 0 0;"
        + "surfer e 0 0 1 1 0 0;set 0 1;set 1 1;set 2 1;set 3 1;bank 1 1 1;rule out;seed 1;law catch 1;law drift 1;law away 1;";

    // "A TEXT without LINES; an empty TAPE."
    private static void aNewObject() {
        due.in("1 a new object");
        WhoseWave emptied = due.told(ALL_LINES);
        due.is("text(0)", emptied.text(0), 0);
        Whole.asked(emptied).mustBe(due, Whole.asked(new WhoseWave()));
        Whole.driven(emptied).mustBe(due, Whole.driven(new WhoseWave()));
        due.is("text(1)", new WhoseWave().text(1), -2);
        due.is("text(0)", new WhoseWave().text(0), 0);
        due.is("feed", new WhoseWave().feed(0, 0, 0, 0, 0), 20);
    }

    // "how many it has; NONE, and none come, if it would have more than 700."
    private static void fullTape() {
        due.in("2 feed: at most 700");
        WhoseWave x = new WhoseWave();
        for (int i = 1; i <= 34; i++) {
            due.is("feed " + i, x.feed(0x20202020, 0x20202020, 0x20202020, 0x20202020, 0x20202020), 20 * i);
        }
        due.is("the last one that fits", x.feed(0x20202020, 0x20202020, 0x20202020, 0x73656564, 0x2034323b), 700);
        due.is("one more", x.feed(0x23232323, 0x23232323, 0x23232323, 0x23232323, 0x23232323), -1);
        due.is("one more", x.feed(0, 0, 0, 0, 0), -1);
        due.is("701 bytes aren't there", x.text(701), -2);
        due.is("none came: the last LINE is as it was", x.text(700), 1);
        due.is("it is empty then", x.feed(0, 0, 0, 0, 0), 20);
    }

    // "Twenty bytes come behind the TAPE, four of each number, the highest first".
    private static void bytesOfNumbers() {
        due.in("2 feed: bytes");
        for (int at = 0; at < 20; at++) {
            StringBuilder text = new StringBuilder(" ".repeat(20));
            text.setCharAt(at, '#');
            WhoseWave x = new WhoseWave();
            Due.feed(x, " ".repeat(20));
            Due.feed(x, text.toString());
            due.is("text", x.text(40), -1);
            due.is("the byte numbered " + at, x.fault(1), 20 + at);
        }
        WhoseWave x = new WhoseWave();
        x.feed(0x2020207f, -1, 0, 0, 0);
        due.is("127", x.text(4), -1);
        due.is("its place", x.fault(1), 3);
        x.feed(0xa0202020, 0x20202020, 0, 0, 0);
        due.is("a highest bit isn't lost: 160 is no blank", x.text(8), -1);
        due.is("its place", x.fault(1), 0);
        x.feed(0x2020208a, 0, 0, 0, 0);
        due.is("138 is no blank", x.text(4), -1);
    }

    // "The TAPE's first n bytes (it is empty then) are the TEXT"; "-2 ...: there are not so many, n is below 0."
    private static void howManyBytes() {
        due.in("3 text: n");
        WhoseWave x = new WhoseWave();
        Due.feed(x, "seed 1;sea 2 2;rule ");
        due.is("21 of 20", x.text(21), -2);
        due.is("-1", x.text(-1), -2);
        due.is("20 of 20", x.text(20), -1);
        due.is("a LINE that isn't whole", x.fault(1), 20);
        due.is("it is empty then, with a FAULT too", x.text(1), -2);
        Due.feed(x, "seed 1;sea 2 2;rule ");
        due.is("7", x.text(7), 1);
        due.is("none is left of those behind", x.text(1), -2);
        due.is("feed", x.feed(0x20202020, 0x20202020, 0x20202020, 0x20202020, 0x20202020), 20);
        due.is("0 of 20", x.text(0), 0);
        due.is("it is empty then", x.feed(0x20202020, 0x20202020, 0x20202020, 0x20202020, 0x20202020), 20);
        due.is("19 of 20", x.text(19), 0);
    }

    /** The first n bytes alone are looked at, whatever lies behind. */
    private static void cutAt(String fed, int n, int lines, int kind, int place) {
        due.in(fed + ", the first " + n);
        WhoseWave x = new WhoseWave();
        Due.feed(x, fed);
        due.is("text", x.text(n), lines);
        due.is("fault(0)", x.fault(0), kind);
        due.is("fault(1)", x.fault(1), place);
    }

    // FAULT 1: "(the length, if more must come)".
    private static void theLength() {
        cutAt("sea 1 1;", 3, -1, 1, 3);
        cutAt("sea 1 1;", 4, -1, 1, 4);
        cutAt("sea 1 1;", 5, -1, 1, 5);
        cutAt("sea 1 1;", 7, -1, 1, 7);
        cutAt("sea 1 1;", 8, 1, 0, -1);
        cutAt("sea 1 1;#", 8, 1, 0, -1);
        cutAt("sea 1 1;#", 9, -1, 1, 8);
        cutAt("sea 1 66;", 7, -1, 1, 7);
        cutAt("sea 1 66;", 8, -1, 2, 6);
        cutAt("seal 1 1;", 3, -1, 1, 3);
        cutAt("seal 1 1;", 4, -1, 1, 0);
        cutAt("law catch 1<=1;", 12, -1, 1, 12);
        cutAt("law catch 1<=1;", 13, -1, 1, 13);
        cutAt("law catch 1<=1;", 14, -1, 1, 14);
        cutAt("law catch 1<=1;", 15, 1, 0, -1);
        cutAt("law catch 1<;", 12, -1, 1, 12);
        cutAt("law catch 1<;", 13, -1, 1, 12);
        cutAt("surfer abcdefg 0;", 13, -1, 1, 13);
        cutAt("surfer abcdefg 0;", 14, -1, 1, 7);
        cutAt("law catch 99999;", 14, -1, 1, 14);
        cutAt("law catch 99999;", 15, -1, 2, 10);
        cutAt("seed 1;   \n\n  ", 14, 1, 0, -1);
        cutAt("seed 1   \n\n  ", 13, -1, 1, 13);
    }

    // "how many LINES": from none up to all that there can be.
    private static void howManyLines() {
        due.good("", 0);
        due.good(" ", 0);
        due.good("\n", 0);
        due.good("seed 1;", 1);
        due.good(ALL_LINES, 17);
        due.good(ALL_LINES.replace(";", " \n; \n").replace(" 0 0 ", "\n0 0\n"), 17);
    }

    // "(MINUTE 0, all IN, no NOTES, all KNOWN, no IMAGE, nothing to undo then)".
    private static void anew() {
        due.in("3 text: all anew");
        String text = "sea 4 3;peak 1 1;surfer a 1 1 3 2 50 60;surfer b 2 1 5 1 50 30;surfer c 3 2 9 3 0 0;set 0 4 7 5;set 6 3 9;set 12 1 2;seed 7;law away 2;";
        WhoseWave x = due.told(text);
        x.minutes(1);
        x.keep();
        x.minutes(12);
        due.that("some WAVES were had", x.shares(1) > 0);
        due.that("some were CROSSED", x.count(8) > 0);
        due.that("some were WASTED", x.count(9) > 0);
        due.that("somebody is AWAY", x.look(0, 3) + x.look(1, 3) + x.look(2, 3) > 0);
        x.note(0, 0, 1);
        x.note(1, 1, 1);
        x.known(1);
        x.rule(2);
        x.stroke(2, 0);
        due.is("the same text", Due.tell(x, text), 10);
        due.is("MINUTE", x.count(6), 0);
        due.is("IN", x.look(0, 3), 0);
        due.is("NOTES", x.count(11), 0);
        due.is("to undo", x.count(13), 0);
        due.is("undo()", x.undo(), -1);
        due.is("IMAGE", x.back(), -1);
        x.note(0, 0, 1);
        x.note(1, 1, 1);
        due.is("all KNOWN", x.count(12), 2);
        due.is("the same text", Due.tell(x, text), 10);
        Whole.asked(x).mustBe(due, Whole.asked(due.told(text)));
        due.is("the same text", Due.tell(x, text), 10);
        Whole.driven(x).mustBe(due, Whole.driven(due.told(text)));
    }

    // What earlier texts told, with a FAULT or without, is not in a later one: "6 and 4", "0, 0", "deep", "(0)", "5 without" and their like hold.
    private static void nothingIsLeft() {
        String rest = "surfer a 2 1 1 1 0 0;surfer b 1 1 1 1 0 0;surfer c 3 3 1 1 0 0;set 0 1 1;set 6 2 2 2;";
        String[] ahead = {ALL_LINES, "sea 1 1;peak 0 0;surfer a 0 0 9 3 100 100;set 90 9 9 9;bank 1 1 9;rule turns;seed 99999;law catch 1;law drift 7;law away 30;#",
            "law catch not(not(1+(far<", "law drift ((((((((", "sea 8 6;law away not not not not", ALL_LINES + "surfer"};
        for (String first : ahead) {
            due.in("3 text: behind " + first);
            WhoseWave x = new WhoseWave();
            Due.tell(x, first);
            Due.tell(x, first);
            due.is("text", Due.tell(x, rest), 5);
            Whole.asked(x).mustBe(due, Whole.asked(due.told(rest)));
            Whole.driven(x).mustBe(due, Whole.driven(due.told(rest)));
            Due.tell(x, first);
            due.is("text", Due.tell(x, rest + "law catch 100-far*2*(1+1);law drift minute;law away 1+(1);"), 8);
            due.is("KNOTS", x.count(5), 13);
            due.is("catch", x.law(0, 0, 0), 88);
            due.is("drift", x.law(2, 0, 0), 0);
            due.is("away", x.law(1, 0, 0), 2);
            due.is("no bank", x.over(0), -1);
        }
    }

    // "Of the latest text() that was not -2 ... its FAULT (0) ... its place (NONE without). NONE for another what."
    private static void fault() {
        due.in("4 fault");
        WhoseWave x = new WhoseWave();
        due.is("of none", x.fault(0), 0);
        due.is("of none", x.fault(1), -1);
        x.text(1);
        due.is("a -2 isn't one", x.fault(0), 0);
        Due.tell(x, " #");
        due.is("it", x.fault(0), 1);
        due.is("its place", x.fault(1), 1);
        x.text(-1);
        x.text(700);
        due.is("it, behind a -2", x.fault(0), 1);
        due.is("its place, behind a -2", x.fault(1), 1);
        x.text(0);
        due.is("without", x.fault(0), 0);
        due.is("without", x.fault(1), -1);
        Due.tell(x, "#");
        due.is("at 0", x.fault(1), 0);
        int[] others = {-1, 2, 3, Integer.MAX_VALUE, Integer.MIN_VALUE};
        for (int what : others) {
            due.is("fault(" + what + ")", x.fault(what), -1);
        }
    }

    // "5 bits each (a is 1; the first one highest of six, 0 behind the last one); NONE: there is none such."
    private static void named() {
        due.in("5 named");
        WhoseWave x = due.told("surfer a 0 0 1 1 0 0;surfer z 0 0 1 1 0 0;surfer abcdef 0 0 1 1 0 0;surfer zzzzzz 0 0 1 1 0 0;surfer aaaaa 0 0 1 1 0 0;");
        int a = 1 << 25;
        int z = 26 << 25;
        int sixth = 1 << 25 | 2 << 20 | 3 << 15 | 4 << 10 | 5 << 5 | 6;
        int most = 26 * (1 << 25 | 1 << 20 | 1 << 15 | 1 << 10 | 1 << 5 | 1);
        int five = 1 << 25 | 1 << 20 | 1 << 15 | 1 << 10 | 1 << 5;
        int[] such = {a, z, sixth, most, five};
        for (int i = 0; i < 5; i++) {
            due.is("one that is there", x.named(such[i]), i);
            due.is("one bit less", x.named(such[i] - 1), -1);
            due.is("one bit more", x.named(such[i] + 1), -1);
            due.is("with bit 30", x.named(such[i] | 1 << 30), -1);
            due.is("with bit 31", x.named(such[i] | 1 << 31), -1);
        }
        int[] none = {0, 1, -1, 27 << 25, 31 << 25, 1 << 20, a | 1, a | 27 << 20, Integer.MAX_VALUE, Integer.MIN_VALUE};
        for (int letters : none) {
            due.is("named(" + letters + ")", x.named(letters), -1);
            due.is("named(" + letters + ") without SURFERS", new WhoseWave().named(letters), -1);
        }
    }

    private static boolean isIn(int c, String signs) {
        return signs.indexOf(c) >= 0;
    }

    // "Blanks 10, 32", "small letters in a row", "digits": every byte between two numbers of an E.
    private static void everyByteInAFormula() {
        for (int c = 0; c < 256; c++) {
            due.in("law catch 1, the byte " + c + ", 1;");
            WhoseWave x = new WhoseWave();
            boolean joins = isIn(c, "0123456789+-*/<=>");
            boolean parts = isIn(c, " \n;");
            due.is("text", Due.tell(x, "law catch 1" + (char) c + "1;"), joins ? 1 : -1);
            due.is("fault(0)", x.fault(0), joins ? 0 : 1);
            due.is("fault(1)", x.fault(1), joins ? -1 : parts ? 12 : 11);
        }
    }

    // Every byte between a word and a number: a letter is of the word, a digit of the number, a blank of neither.
    private static void everyByteBehindAWord() {
        for (int c = 0; c < 256; c++) {
            due.in("sea, the byte " + c + ", 1 1;");
            WhoseWave x = new WhoseWave();
            boolean fits = isIn(c, " \n0");
            boolean letter = c >= 'a' && c <= 'z';
            due.is("text", Due.tell(x, "sea" + (char) c + "1 1;"), fits ? 1 : -1);
            due.is("fault(0)", x.fault(0), fits ? 0 : isIn(c, "123456789") ? 2 : 1);
            due.is("fault(1)", x.fault(1), fits ? -1 : letter ? 0 : 3);
        }
    }

    public static void main(String[] args) {
        aNewObject();
        fullTape();
        bytesOfNumbers();
        howManyBytes();
        theLength();
        howManyLines();
        anew();
        nothingIsLeft();
        fault();
        named();
        everyByteInAFormula();
        everyByteBehindAWord();
        due.end();
    }
}
