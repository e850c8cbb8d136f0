/** Bounds of an E (Terms, parts 1 and 2; promises 8 to 10): at each bound, and one step beyond it on each side. */
public final class FormulaBoundsTest {
    private static final Due due = new Due();
    private static final long ERROR = Long.MIN_VALUE;
    private static final String[] JOINTS = {"+", "-", "*", "/", "<", "<=", "=", "<>", ">=", ">", " and ", " or "};
    private static final String[] NAMES = {"far", "side", "board", "size", "minute", "which"};
    private static final String MILLION = "1000*1000";
    private static final String MOST = MILLION + "*" + MILLION;

    // "N of E 0 .. 9999"; FAULT 2 "a number beyond what is said".
    private static void numbers() {
        String[] kinds = {"catch", "drift", "away"};
        for (String kind : kinds) {
            due.good("law " + kind + " 0;", 1);
            due.good("law " + kind + " 9999;", 1);
            due.bad(2, "law " + kind + " |10000;");
            due.bad(2, "law " + kind + " 1+(2*|10000);");
            due.bad(2, "law " + kind + " |4294967296;");
            due.bad(1, "law " + kind + " |-1;");
        }
        due.good("law catch 00009999+00000000000000000000;", 1);
        due.in("as they are taken");
        WhoseWave x = due.told("surfer a 0 0 1 1 0 0;set 0 1;law catch 9999;law away 0;law drift 00;");
        due.is("9999", x.law(0, 0, 0), 9999);
        due.is("0", x.law(1, 0, 0), 0);
        due.is("0", x.law(2, 0, 0), 0);
    }

    private static String open(int n) {
        return "(".repeat(n);
    }

    private static String close(int n) {
        return ")".repeat(n);
    }

    // FAULT 2 "a ninth '(' open".
    private static void openOnes() {
        for (int n = 0; n <= 8; n++) {
            due.good("law catch " + open(n) + "1" + close(n) + ";", 1);
            if (n > 0) {
                due.bad(1, "law catch " + open(n) + "1" + close(n - 1) + "|;");
                due.bad(1, "law catch " + open(n) + "1" + close(n) + "|);");
                due.bad(1, "law catch " + open(n) + "1" + close(n) + "|(;");
                due.bad(1, "law catch " + open(n) + "|" + close(n) + ";");
            }
        }
        due.bad(2, "law catch " + open(8) + "|(1" + close(9) + ";");
        due.bad(2, "law catch " + open(8) + "|(");
        due.good("law catch " + open(8) + "1" + close(8) + "+" + open(8) + "1" + close(8) + ";law drift " + open(8) + "1" + close(8) + ";", 2);
        due.bad(2, "law catch (1)+" + open(8) + "|(1" + close(9) + ";");
        due.good("law catch " + open(7) + "(1)+(1)*(1)" + close(7) + ";", 1);
        due.bad(2, "law catch " + open(7) + "(1)+(1)*(|(1))" + close(7) + ";");
        due.bad(2, "law catch not " + open(8) + "not |(1" + close(9) + ";");
    }

    // As many 'not' and '(' as there may be wait for one another.
    private static void deepest() {
        String nots = "not(".repeat(8) + "not ".repeat(55);
        due.good("law catch " + nots + "1" + close(8) + ";", 1);
        worthOfCatch(nots + "1" + close(8), 0);
        worthOfCatch(nots.substring(4) + "1" + close(7), 1);
        worthOfCatch(open(8) + "not ".repeat(63) + "7" + close(8), 0);
        worthOfCatch(open(8) + "not ".repeat(62) + "7" + close(8), 1);
        worthOfCatch("1-(1-(1-(1-(1-(1-(1-(1-(3" + close(8), 3);
        due.bad(2, "law catch " + nots + "not |1" + close(8) + ";");
    }

    private static void worthOfCatch(String formula, long want) {
        due.in(formula);
        due.is("catch", due.told("surfer a 0 0 1 1 0 0;set 0 1;law catch " + formula + ";").law(0, 0, 0), want);
    }

    private static String knots(int odd) {
        return "1" + "+1".repeat((odd - 1) / 2);
    }

    // FAULT 2 "a 65th KNOT of all E (N, NAMES, signs, not, and, or: one each)": each kind of KNOT as the 64th and as the 65th.
    private static void knots() {
        due.in("KNOTS");
        due.is("64 of one E", due.told("law catch not " + knots(63) + ";").count(5), 64);
        due.is("64 of three E", due.told("law catch " + knots(21) + ";law drift not " + knots(21) + ";law away " + knots(21) + ";").count(5), 64);
        due.is("'(' and ')' are none", due.told("law catch ((1)+((far)));").count(5), 3);
        due.is("none", due.told("seed 1;").count(5), 0);
        String full = "law catch " + knots(63) + ";law drift 1";
        due.good(full + ";", 2);
        for (String joint : JOINTS) {
            String ahead = joint.startsWith(" ") ? " " : "";
            due.bad(2, full + ahead + "|" + joint.trim() + " 1;");
            due.good("law catch " + knots(61) + ";law drift 1" + joint + "1;", 2);
            due.bad(2, "law catch " + knots(61) + ";law drift 1" + joint + "1|+1;");
        }
        for (String name : NAMES) {
            due.good("law catch " + knots(63) + ";law drift " + name + ";", 2);
            due.bad(2, full + ";law away |" + name + ";");
        }
        due.bad(2, full + ";law away |0;");
        due.bad(2, full + ";law away |9999;");
        due.bad(2, full + ";law away |not 1;");
        due.bad(2, full + ";law away ((|1));");
        due.bad(1, full + ";law away |;");
        due.bad(2, "law catch " + knots(61) + ";law drift not not not |1;");
        due.good("law catch " + knots(61) + ";law drift not not 1;", 2);
    }

    // "the first along the text (of one place the least)".
    private static void theLeastOfOnePlace() {
        String full = "law catch " + knots(63) + ";law drift 1";
        due.bad(1, full + " |1;");
        due.bad(1, full + " |far;");
        due.bad(1, full + " |not 1;");
        due.bad(1, full + ";law away |and 1;");
        due.bad(1, full + ";law away |+ 1;");
        due.bad(1, "law catch 1 |10000;");
        due.bad(1, "law catch " + open(8) + "1|(1;");
        due.bad(1, "sea 1 1 |9;");
        due.bad(1, "seed 1 |100000;");
        due.bad(1, "rule |99999;");
        due.bad(1, "surfer |99999 0 0 1 1 0 0;");
        due.bad(2, "set 99 1 1 1 1 1 1 1;set |100 1;");
        due.bad(2, "set 99 1 1 1 1 1 1 1;set |105 1;");
        due.bad(3, "sea 1 1;peak 0 0;|sea 9 9;");
        due.bad(5, "set 1 1;set |1 0;");
        due.bad(3, "surfer a 0 0 1 1 0 0;surfer |a 9 9 0 0 101 101;");
        due.bad(2, "sea |9 1");
        due.bad(2, "peak |6 4;sea 1 1;");
        due.bad(1, "seed 1;|# sea 9 9;");
    }

    // "A = (or > behind <) right behind < or > belongs to it."
    private static void twoSigns() {
        String[] right = {"1<=2", "1<>2", "1>=2", "1 <=2", "1<= 2", "1<2", "1>2", "1=2"};
        for (String formula : right) {
            due.good("law catch " + formula + ";", 1);
        }
        due.bad(1, "law catch 1< |=2;");
        due.bad(1, "law catch 1< |>2;");
        due.bad(1, "law catch 1> |=2;");
        due.bad(1, "law catch 1<\n|=2;");
        due.bad(1, "law catch 1>|>2;");
        due.bad(1, "law catch 1>|<2;");
        due.bad(1, "law catch 1>|<=2;");
        due.bad(1, "law catch 1<|<2;");
        due.bad(1, "law catch 1<|<=2;");
        due.bad(1, "law catch 1=|=2;");
        due.bad(1, "law catch 1=|>2;");
        due.bad(1, "law catch 1=|>=2;");
        due.bad(1, "law catch 1=|<2;");
        due.bad(1, "law catch 1<=|>2;");
        due.bad(1, "law catch 1<>|=2;");
        due.bad(1, "law catch 1<>|>2;");
        due.bad(1, "law catch 1>=|=2;");
        due.bad(1, "law catch 1>=|>2;");
    }

    /** What E is worth of each law for the one WAVE, at MINUTE 0. */
    private static void worth(String formula, long want) {
        due.in(formula);
        WhoseWave x = due.told("surfer a 0 0 1 1 0 0;set 0 1;law catch " + formula + ";");
        due.is("catch", x.law(0, 0, 0), want);
        x = due.told("surfer a 0 0 1 1 0 0;set 0 1;law away " + formula + ";");
        due.is("away", x.law(1, 0, 0), want);
        x = due.told("law drift " + formula + ";");
        due.is("drift", x.law(2, 0, 0), want);
    }

    // "ERROR: / by 0, a value above 10 to the 12 or below 0 by more than that."
    private static void greatValues() {
        long most = 1000000000000L;
        worth(MOST, most);
        worth(MOST + "-1", most - 1);
        worth(MOST + "+0", most);
        worth(MOST + "+1", ERROR);
        worth("1+" + MOST, ERROR);
        worth("0-" + MOST, -most);
        worth("0-" + MOST + "+1", -most + 1);
        worth("0-" + MOST + "-0", -most);
        worth("0-" + MOST + "-1", ERROR);
        worth("0-1-" + MOST, ERROR);
        worth("(0-1)*" + MOST, -most);
        worth(MOST + "*1", most);
        worth(MOST + "*(0-1)", -most);
        worth(MOST + "*2", ERROR);
        worth("(" + MOST + ")*(0-2)", ERROR);
        worth("(" + MILLION + "+1)*(" + MILLION + "-1)", most - 1);
        worth("(" + MILLION + "+1)*(" + MILLION + ")", ERROR);
        worth("(0-" + MILLION + "-1)*(" + MILLION + ")", ERROR);
        worth("(" + MOST + ")*(" + MOST + ")", ERROR);
        worth("(0-" + MOST + ")*(" + MOST + ")", ERROR);
        worth("(" + MOST + ")*(0-" + MOST + ")", ERROR);
        worth("(0-" + MOST + ")*(0-" + MOST + ")", ERROR);
        worth("(" + MOST + ")*0", 0);
        worth("0*(" + MOST + ")", 0);
        worth("(" + MOST + "+1)*0", ERROR);
        worth("(" + MOST + "+1)<1", ERROR);
        worth("not (" + MOST + "+1)", ERROR);
        worth("not (" + MOST + ")", 0);
        worth("1 or " + MOST + "+1", ERROR);
        worth("0 and " + MOST + "+1", ERROR);
        worth(MOST + "+1 or 1", ERROR);
        worth("(" + MOST + ")/(0-1)", -most);
        worth("(" + MOST + ")/(" + MOST + ")", 1);
        worth("(" + MOST + "-1)/(" + MOST + ")", 0);
        worth("(1-" + MOST + ")/(" + MOST + ")", 0);
    }

    // Products that don't fit a long: 2 to the 64 would wrap to 0, 2 to the 63 to the least long, and others between the bounds.
    private static void wraps() {
        String two32 = "(256*256*256*256)";
        String two31 = "(256*256*256*128)";
        worth(two32, 4294967296L);
        worth(two32 + "*" + two32, ERROR);
        worth("(0-" + two32 + ")*" + two32, ERROR);
        worth(two32 + "*" + two31, ERROR);
        worth("(0-" + two32 + ")*" + two31, ERROR);
        worth(two32 + "*(" + two32 + "+1)", ERROR);
        worth("(" + two32 + "*2)*(" + two31 + "+1)", ERROR);
        worth(two32 + "*" + two32 + "*0", ERROR);
        worth("not " + two32 + "*" + two32, ERROR);
        worth(two32 + "*" + two32 + "=0", ERROR);
    }

    // Comparisons at the bound and one step beyond it on each side.
    private static void comparisons() {
        String[] signs = {"<", "<=", "=", "<>", ">=", ">"};
        int[][] wants = {{1, 0, 0}, {1, 1, 0}, {0, 1, 0}, {1, 0, 1}, {0, 1, 1}, {0, 0, 1}};
        for (int i = 0; i < signs.length; i++) {
            for (int k = 0; k < 3; k++) {
                worth((4 + k) + signs[i] + "5", wants[i][k]);
                worth((k - 1 < 0 ? "0-1" : "" + (k - 1)) + signs[i] + "0", wants[i][k]);
                worth(MOST + "-" + (2 - k) + signs[i] + MOST + "-1", wants[i][k]);
            }
        }
        String[] bits = {"0-1", "0", "1", "2"};
        for (String left : bits) {
            for (String right : bits) {
                boolean one = !left.equals("0");
                boolean other = !right.equals("0");
                worth("(" + left + ") and (" + right + ")", one && other ? 1 : 0);
                worth("(" + left + ") or (" + right + ")", one || other ? 1 : 0);
            }
        }
    }

    // "Of drift far, side, board, size, which are 0; of away far, side are 0".
    private static void namesThatAreNothing() {
        due.in("names that are 0");
        WhoseWave x = due.told("sea 8 6;peak 1 1;surfer a 7 5 9 1 0 0;set 2 1 8;law catch 1;law drift far*16+side*8+board*4+size*2+which+minute*100;");
        for (int minute = 0; minute < 5; minute++) {
            x.odds(0, 1, 47);
            due.is("drift at " + minute, x.law(2, 0, 1), 100 * minute);
            x.minutes(1);
        }
        x = due.told("sea 8 6;peak 1 1;surfer a 7 5 9 1 0 0;set 2 1 8;law catch far*16+side;law away far*1000+side*100+board;");
        due.is("catch", x.law(0, 0, 1), 164);
        due.is("away", x.law(1, 0, 1), 9);
        x = due.told("sea 8 6;peak 1 5;surfer a 0 0 9 1 0 0;set 2 1 8 9;law catch side*100+size*10+which;law away size*1000+which*100+minute;");
        due.is("side below 0", x.law(0, 0, 2), -407);
        due.is("the first WAVE", x.law(1, 0, 0), 1102);
        due.is("the last WAVE", x.law(1, 0, 2), 9304);
    }

    // "/ is cut towards 0"; "/ by 0"; "what isn't 0 is as 1, both sides are worked out".
    private static void smallValues() {
        worth("1/1", 1);
        worth("1/0", ERROR);
        worth("0/0", ERROR);
        worth("0/1", 0);
        worth("1/(1-1)", ERROR);
        worth("1/(0-1)", -1);
        worth("3/2", 1);
        worth("1/2", 0);
        worth("(0-1)/2", 0);
        worth("(0-3)/2", -1);
        worth("3/(0-2)", -1);
        worth("(0-3)/(0-2)", 1);
        worth("not 0", 1);
        worth("not 1", 0);
        worth("not 2", 0);
        worth("not (0-1)", 0);
        worth("2 and (0-1)", 1);
        worth("2 and 0", 0);
        worth("0 or (0-1)", 1);
        worth("0 or 0", 0);
        worth("1 or 1/0", ERROR);
        worth("0 and 1/0", ERROR);
        worth("1/0 or 1", ERROR);
        worth("1/0 and 0", ERROR);
    }

    // "Long.MIN_VALUE: an ERROR, no such law, no such ones."
    private static void noSuchLaw() {
        due.in("10 law");
        WhoseWave x = due.told("surfer a 0 0 1 1 0 0;surfer b 0 0 1 1 0 0;set 0 1 1;law catch 7;law away 8;law drift 9;");
        due.is("catch", x.law(0, 1, 1), 7);
        due.is("away", x.law(1, 1, 1), 8);
        due.is("drift", x.law(2, 1, 1), 9);
        int[] whats = {-1, 3, Integer.MAX_VALUE, Integer.MIN_VALUE};
        for (int what : whats) {
            due.is("what " + what, x.law(what, 0, 0), ERROR);
        }
        int[] wrong = {-1, 2, 28, Integer.MAX_VALUE, Integer.MIN_VALUE};
        for (int n : wrong) {
            due.is("catch of SURFER " + n, x.law(0, n, 0), ERROR);
            due.is("away of SURFER " + n, x.law(1, n, 0), ERROR);
            due.is("catch of WAVE " + n, x.law(0, 0, n), ERROR);
            due.is("away of WAVE " + n, x.law(1, 0, n), ERROR);
        }
        x = due.told("surfer a 0 0 1 1 0 0;set 0 1;");
        for (int what = 0; what < 3; what++) {
            due.is("without a law", x.law(what, 0, 0), ERROR);
        }
    }

    public static void main(String[] args) {
        numbers();
        openOnes();
        deepest();
        knots();
        theLeastOfOnePlace();
        twoSigns();
        greatValues();
        smallValues();
        wraps();
        comparisons();
        namesThatAreNothing();
        noSuchLaw();
        due.end();
    }
}
