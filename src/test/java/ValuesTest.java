/** What an E is worth: how signs bind, what is cut, what is an ERROR. */
public final class ValuesTest {
    private static final Due due = new Due();
    private static final long ERROR = Long.MIN_VALUE;

    // At minute 7 of a WAVE of size 9, the third of its SET; board 5; far 3, side -1.
    private static void worth(String formula, long want) {
        WhoseWave x = new WhoseWave();
        due.in(formula);
        due.is("text", Due.tell(x, "sea 6 4;peak 2 2;surfer a 0 1 5 1 0 0;set 5 1 1 9;law catch " + formula + ";"), 5);
        due.is("law", x.law(0, 0, 2), want);
    }

    private static void binding() {
        worth("1 + 2 * 3", 7);
        worth("(1 + 2) * 3", 9);
        worth("10 - 3 - 2", 5);
        worth("10 - (3 - 2)", 9);
        worth("100 / 5 / 2", 10);
        worth("100 / 5 * 2", 40);
        worth("2 * 7 / 3", 4);
        worth("1 + 2 < 2 + 2", 1);
        worth("1 + (2 < 2) + 2", 3);
        worth("not 0 + 1", 0);
        worth("(not 0) + 1", 2);
        worth("not 1 = 2", 1);
        worth("(not 1) = 2", 0);
        worth("not not 7", 1);
        worth("1 or 0 and 0", 1);
        worth("(1 or 0) and 0", 0);
        worth("0 and 0 or 1", 1);
        worth("not 1 or 1", 1);
        worth("not (1 or 1)", 0);
        worth("3 < 4 and 4 < 3 or 2 = 2", 1);
    }

    private static void bits() {
        worth("7 and 9", 1);
        worth("7 and 0", 0);
        worth("0 or 9", 1);
        worth("0 or 0", 0);
        worth("(0 - 3) and 1", 1);
        worth("not (0 - 3)", 0);
        int[][] pairs = {{1, 2}, {2, 2}, {3, 2}};
        String[] signs = {"<", "<=", "=", "<>", ">=", ">"};
        int[][] wants = {{1, 0, 0}, {1, 1, 0}, {0, 1, 0}, {1, 0, 1}, {0, 1, 1}, {0, 0, 1}};
        for (int i = 0; i < signs.length; i++) {
            for (int k = 0; k < pairs.length; k++) {
                worth(pairs[k][0] + signs[i] + pairs[k][1], wants[i][k]);
            }
        }
    }

    private static void names() {
        worth("far", 3);
        worth("side", -1);
        worth("board", 5);
        worth("size", 9);
        worth("minute", 7);
        worth("which", 3);
    }

    private static void cutsAndErrors() {
        worth("(0 - 7) / 2", -3);
        worth("7 / (0 - 2)", -3);
        worth("(0 - 7) / (0 - 2)", 3);
        worth("1 / 0", ERROR);
        worth("0 / 0", ERROR);
        worth("0 * (1 / 0)", ERROR);
        worth("1 or 1 / 0", ERROR);
        worth("0 and 1 / 0", ERROR);
        worth("not 1 / 0", ERROR);
        worth("1 / 0 < 2", ERROR);
        String million = "(1000 * 1000)";
        worth(million + " * " + million, 1000000000000L);
        worth(million + " * " + million + " + 1", ERROR);
        worth(million + " * " + million + " + 1 - 1", ERROR);
        worth(million + " * " + million + " - 1", 999999999999L);
        worth("0 - " + million + " * " + million, -1000000000000L);
        worth("0 - " + million + " * " + million + " - 1", ERROR);
        worth(million + " * (" + million + " + 1)", ERROR);
        worth("(0 - " + million + ") * (" + million + " + 1)", ERROR);
        worth("(0 - " + million + ") * " + million, -1000000000000L);
        String most = "(" + million + " * " + million + ")";
        worth(most + " * " + most, ERROR);
        worth(most + " * 0", 0);
        worth("0 * " + most, 0);
        worth(most + " + " + most, ERROR);
        worth("0 - " + most + " - " + most, ERROR);
        worth(most + " / " + most, 1);
        worth("9999 * 9999 * 9999", 999700029999L);
        worth("9999 * 9999 * 9999 * 9999", ERROR);
    }

    public static void main(String[] args) {
        binding();
        bits();
        names();
        cutsAndErrors();
        due.end();
    }
}
