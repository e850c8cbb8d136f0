/** The language of the TEXT: each FAULT with its place, and what is none. */
public final class FaultsTest {
    private static final Due due = new Due();
    private static final String FIVE = "surfer a 0 0 1 1 0 0;surfer b 0 0 1 1 0 0;surfer c 0 0 1 1 0 0;surfer d 0 0 1 1 0 0;surfer e 0 0 1 1 0 0;";
    private static final String FOUR_SETS = "set 0 1;set 1 1;set 2 1;set 3 1;";

    private static void good(String text, int lines) {
        due.good(text, lines);
    }

    private static void bad(int kind, String marked) {
        due.bad(kind, marked);
    }

    private static String times(String what, int n) {
        return what.repeat(n);
    }

    private static void noTokens() {
        for (String none : new String[] {"#", "A", "\t", "\r", "_", "\0", "\u00ff", "\u00e4", ",", ".", "[", "&", "!"}) {
            bad(1, "|" + none);
            bad(1, "sea |" + none);
            bad(1, "law catch 1 |" + none + ";");
        }
        bad(1, "|minutes 1;");
        bad(1, "surfer |abcdefg 0 0 1 1 0 0;");
        bad(1, "surfer |surfers 0 0 1 1 0 0;");
        bad(1, "law catch |minutes;");
        bad(1, "|seal 1 1;");
        bad(1, "|se a 1 1;");
    }

    private static void cannotStandThere() {
        bad(1, "|;");
        bad(1, "seed 1;|;");
        bad(1, "|1;");
        bad(1, "|deep;");
        bad(1, "|far;");
        bad(1, "|(");
        bad(1, "sea 1 1|a;");
        bad(1, "sea |x 1;");
        bad(1, "sea |;");
        bad(1, "sea 1|;");
        bad(1, "sea 1 1 |1;");
        bad(1, "sea |- 1 1;");
        bad(1, "peak 0 0 |peak;");
        bad(1, "surfer |1 0 0 1 1 0 0;");
        for (String word : new String[] {"sea", "peak", "surfer", "set", "bank", "rule", "seed", "law", "deep", "turns", "each", "out", "catch",
            "drift", "away", "not", "and", "or", "far", "side", "board", "size", "minute", "which"}) {
            bad(1, "surfer |" + word + " 0 0 1 1 0 0;");
        }
        bad(1, "surfer a 0 0 1 1 0|;");
        bad(1, "surfer a 0 0 1 1 0 0 |0;");
        bad(1, "set |;");
        bad(1, "set 0|;");
        bad(1, "set 0 1 |a;");
        bad(1, "bank 1 1|;");
        bad(1, "bank 1 1 1 |1;");
        bad(1, "rule |catch;");
        bad(1, "rule |;");
        bad(1, "rule deep |out;");
        bad(1, "seed |a;");
        bad(1, "seed 1 |1;");
        bad(1, "law |deep 1;");
        bad(1, "law |far 1;");
    }

    private static void cutShort() {
        String[] whole = {"sea 1 1;", "peak 0 0;", "surfer a 0 0 1 1 0 0;", "set 0 1 1;", "bank 1 1 1;", "rule deep;", "seed 1;",
            "law catch not ( 1 + far ) >= 2 and 3;"};
        for (String text : whole) {
            good(text, 1);
            for (int at = text.indexOf(' '); at >= 0; at = text.indexOf(' ', at + 1)) {
                bad(1, text.substring(0, at) + "|");
                bad(1, "seed 0;".repeat(text.startsWith("seed") ? 0 : 1) + text.substring(0, at) + " \n |");
            }
            bad(1, text.substring(0, text.length() - 1) + "|");
        }
        good("", 0);
        good(" \n\n  ", 0);
    }

    private static void tooMuch() {
        bad(2, "sea |0 1;");
        bad(2, "sea |9 1;");
        bad(2, "sea 1 |0;");
        bad(2, "sea 1 |7;");
        bad(2, "sea |99999999999999999999999 1;");
        bad(2, "sea |4294967297 1;");
        bad(2, "peak |6 0;");
        bad(2, "peak 0 |4;");
        bad(2, "sea 2 3;peak |2 0;");
        bad(2, "sea 2 3;peak 1 |3;");
        bad(2, "surfer a |6 0 1 1 0 0;");
        bad(2, "surfer a 5 |4 1 1 0 0;");
        bad(2, "surfer a 5 3 |0 1 0 0;");
        bad(2, "surfer a 5 3 |10 1 0 0;");
        bad(2, "surfer a 5 3 9 |0 0 0;");
        bad(2, "surfer a 5 3 9 |4 0 0;");
        bad(2, "surfer a 5 3 9 3 |101 0;");
        bad(2, "surfer a 5 3 9 3 100 |101;");
        good("surfer a 5 3 9 3 100 100;", 1);
        good("surfer abcdef 5 3 9 3 100 100;", 1);
        good(FIVE, 5);
        bad(2, FIVE + "|surfer");
        bad(2, FIVE + "|surfer a 0 0 1 1 0 0;");
        good(FOUR_SETS, 4);
        bad(2, FOUR_SETS + "|set 0 0;");
        bad(2, "set |100 1;");
        bad(2, "set 0 |0;");
        bad(2, "set 0 |10;");
        bad(2, "set 0 1 |0;");
        good("set 99 1 2 3 4 5 6 7;", 1);
        bad(2, "set 0 1 2 3 4 5 6 7 |8;");
        bad(2, "set 0 1 2 3 4 5 6 7 |0;");
        bad(1, "set 0 1 2 3 4 5 6 7 |a;");
        bad(2, "bank |0 1 1;");
        bad(2, "bank |21 1 1;");
        bad(2, "bank 1 |0 1;");
        bad(2, "bank 1 |21 1;");
        bad(2, "bank 20 20 |0;");
        bad(2, "bank 20 20 |10;");
        good("bank 20 20 9;", 1);
        bad(2, "seed |100000;");
        bad(2, "law catch |10000;");
        bad(2, "law catch |99999999999999999999;");
        good("law catch 9999;", 1);
        good("law catch 00000000009999;", 1);
    }

    private static void openOnes() {
        good("law catch " + times("(", 8) + "1" + times(")", 8) + ";", 1);
        bad(2, "law catch " + times("(", 8) + "|(1" + times(")", 9) + ";");
        good("law catch " + times("((((((((1))))))))+", 9) + "1;", 1);
        bad(1, "law catch " + times("(", 8) + "1 |(;");
        bad(1, "law catch (1|;");
        bad(1, "law catch (1 |law;");
        bad(1, "law catch 1|);");
        bad(1, "law catch (1)|);");
        bad(1, "law catch (|);");
        bad(1, "law catch (1 + |);");
        bad(1, "law catch 1 |(2);");
        bad(1, "law catch (1) |(2);");
        bad(1, "law catch (1) |2;");
    }

    private static void knots() {
        String ones = times("1+", 31) + "1";
        good("law catch " + ones + ";law away 1;", 2);
        WhoseWave x = new WhoseWave();
        Due.tell(x, "law catch " + ones + ";law drift 1;");
        due.is("64 knots", x.count(5), 64);
        bad(2, "law catch " + ones + ";law drift 1|+1;");
        bad(2, "law catch " + ones + ";law drift not |1;");
        bad(2, "law catch " + ones + ";law drift 1;law away |1;");
        bad(2, "law catch " + ones + ";law drift 1;law away |not 1;");
        bad(1, "law catch " + ones + ";law drift 1;law away |or 1;");
        bad(2, "law catch " + ones + ";law drift 1;law away (|far);");
        bad(2, "law catch " + ones + ";law drift 1 |and 1;");
        bad(2, "law catch " + ones + ";law drift 1 |< 1;");
        bad(1, "law catch " + ones + ";law drift 1 |not 1;");
        bad(2, "law catch " + times("not ", 64) + "|not 1;");
        good("law catch " + times("not ", 63) + "1;", 1);
        bad(2, "law catch " + times("1-", 32) + "|1;");
    }

    private static void formulas() {
        for (String right : new String[] {"1", "far", "not 1", "not not far", "1 or 2 and not 3", "1 < 2", "(1 < 2) < 3", "1 < (2 < 3)", "not 1 < 2",
            "not (1) and not (2 <> 3)", "1<2 or 3>=4", "1+2*3-4/5", "1<=2 and 3=4", "(not 1)+2", "(1 or 2)*3", "1>2", "1 <> 2", "1<>2", "far<side"}) {
            good("law catch " + right + ";", 1);
        }
        bad(1, "law catch|;");
        bad(1, "law catch 1 < 2 |< 3;");
        bad(1, "law catch 1 < 2 |= 3;");
        bad(1, "law catch 1 < 2 + 3 * 4 |> 3;");
        bad(1, "law catch not 1 < 2 |< 3;");
        bad(1, "law catch 1 + |not 2;");
        bad(1, "law catch 1 < |not 2;");
        bad(1, "law catch 1 * |not 2;");
        bad(1, "law catch |- 1;");
        bad(1, "law catch 1 + |- 1;");
        bad(1, "law catch 1 + |;");
        bad(1, "law catch 1 < |= 2;");
        bad(1, "law catch 1 < |> 2;");
        bad(1, "law catch 1 > |= 2;");
        bad(1, "law catch 1 >|< 2;");
        bad(1, "law catch 1 =|< 2;");
        bad(1, "law catch 1 =|> 2;");
        bad(1, "law catch 1 =|= 2;");
        bad(1, "law catch 1 <|< 2;");
        bad(1, "law catch 1 <=|= 2;");
        bad(1, "law catch 1 <>|= 2;");
        bad(1, "law catch 1 |2;");
        bad(1, "law catch 1|far;");
        bad(1, "law catch far |side;");
        bad(1, "law catch 1 and |or 2;");
        bad(1, "law catch 1 |not;");
        bad(1, "law catch not |;");
        bad(1, "law catch |x;");
        bad(1, "law catch |catch;");
        bad(1, "law catch 1 |deep;");
    }

    private static void toldAlready() {
        bad(3, "sea 1 1;|sea 9 9;");
        bad(3, "sea 1 1;peak 0 0;|sea 1 1;");
        bad(3, "peak 0 0;|peak");
        bad(3, "bank 1 1 1;|bank 0;");
        bad(3, "rule deep;|rule out;");
        bad(3, "seed 1;|seed 1;");
        bad(3, "law catch 1;law |catch 1;");
        bad(3, "law drift 1;law away 1;law |drift");
        good("law drift 1;law away 1;law catch 1;", 3);
        bad(3, "surfer ab 0 0 1 1 0 0;surfer |ab 9 9;");
        good("surfer ab 0 0 1 1 0 0;surfer a 0 0 1 1 0 0;surfer ba 0 0 1 1 0 0;", 3);
    }

    private static void seaAndSets() {
        bad(4, "peak 0 0;|sea 9 9;");
        bad(4, "surfer a 0 0 1 1 0 0;|sea 1 1;");
        good("seed 1;rule out;bank 1 1 1;law catch 1;set 0 1;sea 8 6;peak 7 5;surfer a 7 5 1 1 0 0;", 8);
        bad(5, "set 5 1 1;set |6 1;");
        bad(5, "set 5 1 1;set |0 0;");
        bad(2, "set 5 1 1;set |100 1;");
        good("set 5 1 1;set 7 1;", 2);
        bad(5, "set 5 1 1;set 7 1;set |7 1;");
        bad(5, "set 99 1;set |99 1;");
        bad(5, "set 95 1 1 1 1 1 1;set |99 1;");
    }

    // The last byte of a full TAPE is the end of a TOKEN, whatever it is.
    private static void fullTape() {
        String[] ends = {"law catch 1 <", "law catch 1 >", "law catch 1", "law catch far", "law catch 1 <=", "law catch (", "sea", "sea 1 1"};
        for (String end : ends) {
            bad(1, times(" ", 700 - end.length()) + end + "|");
        }
        bad(2, times(" ", 690) + "sea 1 |9999");
        good(times(" ", 693) + "seed 1;", 1);
        good(times(" ", 680) + "law catch (far)<>33;", 1);
        good(times("\n", 700), 0);
        bad(1, times(" ", 692) + "|abcdefgh");
    }

    public static void main(String[] args) {
        fullTape();
        noTokens();
        cannotStandThere();
        cutShort();
        tooMuch();
        openOnes();
        knots();
        formulas();
        toldAlready();
        seaAndSets();
        due.end();
    }
}
