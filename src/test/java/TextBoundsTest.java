/** Bounds of what a TEXT tells (Terms, part 1; promises 1 to 5): at each bound, and one step beyond it on each side. */
public final class TextBoundsTest {
    private static final Due due = new Due();
    private static final String ONE = "surfer a 0 0 1 1 0 0;";
    private static final String HUGE = "340282366920938463463374607431768211457";

    private static void good(String text, int lines) {
        due.good(text, lines);
    }

    private static void bad(int kind, String marked) {
        due.bad(kind, marked);
    }

    private static int linesOf(String text) {
        return text.length() - text.replace(";", "").length();
    }

    /** A number at '#', which must be least .. most. */
    private static void number(String text, int least, int most) {
        int[] within = {least, least + 1, most - 1, most};
        for (int n : within) {
            if (n >= least && n <= most) {
                good(text.replace("#", "" + n), linesOf(text));
                good(text.replace("#", "000000000000" + n), linesOf(text));
            }
        }
        String[] beyond = {"" + (most + 1), "0" + (most + 1), "" + (most + 10), "2147483647", "2147483648", "" + (4294967296L + least),
            "18446744073709551616", HUGE};
        for (String n : beyond) {
            bad(2, text.replace("#", "|" + n));
        }
        if (least > 0) {
            bad(2, text.replace("#", "|" + (least - 1)));
            bad(2, text.replace("#", "|000"));
        }
        bad(1, text.replace("#", "|-" + least));
    }

    // "WIDE 1 .. 8, HIGH 1 .. 6"; "CELLS are x, y below these".
    private static void seaAndCells() {
        number("sea # 1;", 1, 8);
        number("sea 1 #;", 1, 6);
        number("sea # 6;peak 0 5;", 1, 8);
        for (int wide = 1; wide <= 8; wide++) {
            number("sea " + wide + " 1;peak # 0;", 0, wide - 1);
            number("sea " + wide + " 1;surfer a # 0 1 1 0 0;", 0, wide - 1);
        }
        for (int high = 1; high <= 6; high++) {
            number("sea 1 " + high + ";peak 0 #;", 0, high - 1);
            number("sea 1 " + high + ";surfer a 0 # 1 1 0 0;", 0, high - 1);
        }
    }

    // "(6 and 4 without)"; "peak: a CELL (0, 0 without)".
    private static void withoutSea() {
        number("peak # 0;", 0, 5);
        number("peak 0 #;", 0, 3);
        number("surfer a # 0 1 1 0 0;", 0, 5);
        number("surfer a 0 # 1 1 0 0;", 0, 3);
        due.in("without sea");
        WhoseWave x = due.told("seed 1;");
        due.is("WIDE", x.count(0), 6);
        due.is("HIGH", x.count(1), 4);
        due.is("the PEAK", x.peak(0), 0);
        x = due.told("sea 8 6;peak 7 5;");
        due.is("the last CELL", x.peak(0), 47);
        x = due.told("surfer a 5 3 1 1 0 0;");
        due.is("y times WIDE and x", x.look(0, 0), 23);
        x = due.told("sea 1 1;peak 0 0;");
        due.is("the one CELL", x.peak(0), 0);
    }

    // "ahead of all lines with CELLS"; FAULT 4.
    private static void seaAheadOfCells() {
        bad(4, "peak 0 0;|sea 1 1;");
        bad(4, ONE + "|sea 1 1;");
        bad(4, "peak 5 3;|sea 6 4;");
        good("set 0 1;bank 1 1 1;rule out;seed 1;law catch 1;law drift 1;law away 1;sea 1 1;peak 0 0;" + ONE, 10);
        bad(3, "sea 1 1;peak 0 0;|sea 1 1;");
        bad(3, "sea 1 1;|sea 1 1;");
    }

    // "BOARD 1 .. 9, PACE 1 .. 3, BOLD 0 .. 100, BENT 0 .. 100."
    private static void surferNumbers() {
        number("surfer a 0 0 # 1 0 0;", 1, 9);
        number("surfer a 0 0 1 # 0 0;", 1, 3);
        number("surfer a 0 0 1 1 # 0;", 0, 100);
        number("surfer a 0 0 1 1 0 #;", 0, 100);
        due.in("numbers of a surfer as they are taken");
        int[] boards = {1, 9};
        for (int board : boards) {
            WhoseWave x = due.told("surfer a 0 0 " + board + " 1 0 0;set 0 1;law catch board;");
            due.is("BOARD", x.law(0, 0, 0), board);
        }
        for (int pace = 1; pace <= 3; pace++) {
            due.is("PACE", due.told("surfer a 0 0 1 " + pace + " 0 0;").look(0, 4), pace);
        }
        int[] bents = {0, 1, 2, 100};
        int[] needed = {100, 100, 51, 2};
        for (int i = 0; i < bents.length; i++) {
            WhoseWave x = due.told("surfer b 0 0 1 1 0 100;surfer a 0 0 1 1 0 " + bents[i] + ";");
            due.is("BENT", x.give(0, 1, needed[i] - 1), 0);
            due.is("BENT", x.give(0, 1, needed[i]), needed[i] > 99 ? -1 : 1);
        }
    }

    // BOLD as it is taken: 500 against a cost times BOLD of the one behind.
    private static void boldAsTaken() {
        due.in("BOLD");
        int[] bolds = {0, 1, 99, 100};
        int[] most = {999, 499, 5, 4};
        for (int i = 0; i < bolds.length; i++) {
            WhoseWave x = due.told("surfer a 0 0 1 1 0 0;surfer b 0 0 1 1 " + bolds[i] + " 0;set 0 5;");
            due.is("go at " + most[i], x.go(0, 0, most[i]), 1);
            due.is("go at " + (most[i] + 1), x.go(0, 0, most[i] + 1), most[i] == 999 ? -1 : 0);
        }
    }

    private static String crowd(int howMany) {
        StringBuilder all = new StringBuilder();
        for (int i = 0; i < howMany; i++) {
            all.append("surfer ").append((char) ('a' + i)).append(" 0 0 1 1 0 0;");
        }
        return all.toString();
    }

    // "SURFERS, at most 5"; "a sixth surfer (at the word of the LINE)"; "several may sit on one".
    private static void howManySurfers() {
        for (int i = 0; i <= 5; i++) {
            good(crowd(i), i);
            WhoseWave x = due.told(crowd(i));
            due.is("SURFERS", x.count(2), i);
            due.is("the last one", Due.look(x, i - 1, 0), i == 0 ? 1000 : 0);
            due.is("one behind it", Due.look(x, i, 0), 1000);
        }
        bad(2, crowd(5) + "|surfer f 0 0 1 1 0 0;");
        bad(2, crowd(5) + "seed 1;|surfer");
        bad(2, crowd(5) + "|surfer a 0 0 1 1 0 0;");
    }

    // "W: one of 1 .. 6 letters, none of those of the language"; FAULT 1 "a word of more than 6 letters"; FAULT 3 at W.
    private static void names() {
        String[] fits = {"a", "z", "ab", "abcdef", "zzzzzz", "se", "seaa", "peaks", "surfe", "minut", "sets", "lawn", "orr", "nota", "an"};
        for (String name : fits) {
            good("surfer " + name + " 0 0 1 1 0 0;", 1);
        }
        bad(1, "surfer |abcdefg 0 0 1 1 0 0;");
        bad(1, "surfer |zzzzzzz 0 0 1 1 0 0;");
        bad(1, "surfer |surfera 0 0 1 1 0 0;");
        bad(1, "surfer |minutea 0 0 1 1 0 0;");
        bad(1, "surfer |" + "a".repeat(40) + " 0 0 1 1 0 0;");
        bad(1, "surfer |0 0 1 1 0 0;");
        good(ONE + "surfer aa 0 0 1 1 0 0;surfer aaaaaa 0 0 1 1 0 0;", 3);
        bad(3, ONE + "surfer aa 0 0 1 1 0 0;surfer |a 0 0 1 1 0 0;");
        bad(3, "surfer abcdef 0 0 1 1 0 0;surfer |abcdef 9 9 9 9 9 9;");
        good("surfer abcdef 0 0 1 1 0 0;surfer abcdeg 0 0 1 1 0 0;surfer bbcdef 0 0 1 1 0 0;", 3);
    }

    private static String sets(int howMany, int sizes) {
        StringBuilder all = new StringBuilder();
        for (int i = 0; i < howMany; i++) {
            all.append("set ").append(7 * i).append(" 1".repeat(sizes)).append(';');
        }
        return all.toString();
    }

    // "SETS, at most 4"; "1 .. 7 SIZES 1 .. 9"; "a fifth set (at the word of the LINE; an eighth SIZE at it)".
    private static void howManySets() {
        for (int many = 0; many <= 4; many++) {
            WhoseWave x = due.told(sets(many, 7));
            due.in(many + " sets");
            due.is("SETS", x.count(3), many);
            due.is("WAVES", x.count(4), 7 * many);
            due.is("the last WAVE", x.wave(7 * many - 1, 0), many == 0 ? -4 : 7 * many - 1);
            due.is("one behind it", x.wave(7 * many, 0), -4);
        }
        bad(2, sets(4, 7) + "|set 50 1;");
        bad(2, sets(4, 1) + "|set");
        bad(1, "set 0|;");
        for (int sizes = 1; sizes <= 7; sizes++) {
            good("set 0" + " 1".repeat(sizes) + ";", 1);
            due.is("the SIZES of a SET", due.told("set 0" + " 1".repeat(sizes) + ";").count(4), sizes);
            number("set 0" + " 1".repeat(sizes - 1) + " #;", 1, 9);
        }
        bad(2, "set 0 1 1 1 1 1 1 1 |1;");
        bad(2, "set 0 1 1 1 1 1 1 1 |9");
    }

    // "the MINUTE 0 .. 99 of the first WAVE, behind the last one of the SET ahead"; FAULT 5 at the MINUTE.
    private static void whenSetsCome() {
        number("set # 1;", 0, 99);
        number("set 0 1;set 1 1;set # 1;", 2, 99, 5);
        for (int sizes = 1; sizes <= 7; sizes++) {
            String ahead = "set 20" + " 1".repeat(sizes) + ";set ";
            bad(5, ahead + "|" + (19 + sizes) + " 1;");
            good(ahead + (20 + sizes) + " 1;", 2);
            bad(5, ahead + "|20 1;");
            bad(5, ahead + "|0 1;");
        }
        bad(5, "set 98 1;set |98 1;");
        good("set 98 1;set 99 1;", 2);
        bad(5, "set 98 1 1;set |99 1;");
        bad(5, "set 99 1 1 1 1 1 1 1;set |99 1;");
        bad(2, "set 99 1 1 1 1 1 1 1;set |106 1;");
        due.in("the last WAVE there can be");
        WhoseWave x = due.told("set 99 1 2 3 4 5 6 9;");
        due.is("its MINUTE", x.wave(6, 0), 105);
        due.is("its SIZE", x.wave(6, 1), 9);
        due.is("which", x.wave(6, 3), 7);
    }

    /** As number(), for numbers below least of which another FAULT is told. */
    private static void number(String text, int least, int most, int below) {
        good(text.replace("#", "" + least), linesOf(text));
        good(text.replace("#", "" + most), linesOf(text));
        bad(below, text.replace("#", "|" + (least - 1)));
        bad(2, text.replace("#", "|" + (most + 1)));
    }

    // "bank: how many MINUTES away 1 .. 20, one WAVE each so many 1 .. 20, its SIZE 1 .. 9."
    private static void bank() {
        number("bank # 1 1;", 1, 20);
        number("bank 1 # 1;", 1, 20);
        number("bank 1 1 #;", 1, 9);
        due.in("a bank as it is taken");
        String sea = "sea 1 1;surfer a 0 0 1 1 0 0;set 40 1;law catch ";
        due.is("20 away: one WAVE, then one of 9 more than 8 here", due.told(sea + "100;bank 20 20 9;").over(0), 0);
        WhoseWave x = due.told(sea + "100;bank 20 20 1;");
        due.is("two WAVES there", x.over(0), 0);
        x.minutes(1);
        due.is("one there, one here", x.over(0), -2);
    }

    // "seed: 0 .. 99999 (0)"; "rule: deep without".
    private static void seedAndRule() {
        number("seed #;", 0, 99999);
        due.in("seeds as they are taken");
        String one = "sea 1 1;surfer a 0 0 1 1 0 0;set 0 1;law catch ";
        int[] seeds = {0, 1, 99999};
        for (int seed : seeds) {
            int first = (int) ((seed * 1103515245L + 12345) % 2147483648L / 65536 % 100);
            WhoseWave x = due.told(one + (first + 1) + ";seed " + seed + ";");
            x.minutes(1);
            due.is("a number below ODDS", x.wave(0, 4), 0);
            x = due.told(one + first + ";seed " + seed + ";");
            x.minutes(1);
            due.is("a number that isn't below ODDS", x.wave(0, 4), -1);
        }
        WhoseWave x = due.told(one + "1;");
        x.minutes(1);
        due.is("0 without seed", x.wave(0, 4), 0);
        due.is("deep without rule", x.count(7), 0);
        String[] rules = {"deep", "turns", "each", "out"};
        for (int i = 0; i < 4; i++) {
            due.is(rules[i], due.told("rule " + rules[i] + ";").count(7), i);
        }
        bad(1, "rule |law;");
        bad(1, "rule |catch;");
        bad(1, "rule |1;");
        bad(1, "rule |deeper;");
    }

    // "told already: ... sea, peak, bank, rule, seed (at the word), a law of its KIND (at KIND)."
    private static void toldAlready() {
        bad(3, "sea 1 1;|sea 1 1;");
        bad(3, "peak 0 0;|peak 0 0;");
        bad(3, "bank 1 1 1;|bank 1 1 1;");
        bad(3, "rule deep;|rule deep;");
        bad(3, "seed 0;|seed 0;");
        String[] kinds = {"catch", "drift", "away"};
        for (String kind : kinds) {
            bad(3, "law catch 1;law drift 1;law away 1;law |" + kind + " 1;");
            bad(3, "law " + kind + " 1;law |" + kind);
            good("law " + kind + " 1;", 1);
            bad(1, "law |" + kind + "s 1;");
        }
        bad(1, "law |not 1;");
        bad(1, "law |out 1;");
    }

    public static void main(String[] args) {
        seaAndCells();
        withoutSea();
        seaAheadOfCells();
        surferNumbers();
        boldAsTaken();
        howManySurfers();
        names();
        howManySets();
        whenSetsCome();
        bank();
        seedAndRule();
        toldAlready();
        due.end();
    }
}
