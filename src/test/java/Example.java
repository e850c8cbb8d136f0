public final class Example {
    private static final String TEXT =
        "sea 6 4; peak 2 0;"
        + "surfer ann 2 0 5 2 0 60; surfer bob 3 1 9 1 40 30; surfer cy 1 0 3 3 0 90;"
        + "set 2 4 6 9; set 12 5 7;"
        + "bank 3 2 4; rule turns; seed 5;"
        + "law catch 100 - far * 15 - size; law drift minute > 8; law away 1 + which;";

    // Four bytes to a number, the highest first; blanks fill the last twenty up.
    private static int four(String text, int at) {
        int number = 0;
        for (int i = at; i < at + 4; i++) {
            number = number << 8 | (i < text.length() ? text.charAt(i) : ' ');
        }
        return number;
    }

    private static int tell(WhoseWave x, String text) {
        for (int i = 0; i < text.length(); i += 20) {
            x.feed(four(text, i), four(text, i + 4), four(text, i + 8), four(text, i + 12), four(text, i + 16));
        }
        return x.text(text.length());
    }

    public static void main(String[] args) {
        WhoseWave x = new WhoseWave();
        System.out.println("lines: " + tell(x, TEXT) + ", surfers: " + x.count(2) + ", waves: " + x.count(4));
        System.out.println("bob is number " + x.named(2 << 25 | 15 << 20 | 2 << 15));

        System.out.println("a text with a fault: " + tell(x, "sea 6 4; peak 6 0;") + ", kind " + x.fault(0) + " at " + x.fault(1));
        System.out.println("all stays: " + x.count(2) + " surfers; too few bytes: " + x.text(1));

        System.out.println("odds of bob for wave 2: " + x.odds(1, 2, x.look(1, 0)) + ", at the peak: " + x.odds(1, 2, x.peak(4)));
        System.out.println("bob's best cell: " + x.best(1) + "; up: " + x.stroke(1, 0) + "; once more: " + x.stroke(1, 0) + "; undone, left: " + x.undo());
        System.out.println("bob plans for wave " + x.planned(1, 0) + ", then " + x.planned(1, 1) + ", then " + x.planned(1, 2));
        System.out.println("the fairest rule: " + x.fairest(5) + "; ann sets out for the other bank at " + x.over(0));

        System.out.println("kept at " + x.keep() + ", now " + x.minutes(15));
        for (int wave = 0; wave < x.count(4); wave++) {
            System.out.println("wave " + wave + " at " + x.wave(wave, 0) + ": " + x.wave(wave, 4));
        }
        System.out.println("crossed: " + x.count(8) + ", wasted: " + x.count(9) + ", unlike: " + x.shares(0));
        System.out.println("back at " + x.back() + ", wave 0: " + x.wave(0, 4) + ", no wave 5: " + x.wave(5, 4));
        System.out.println("no cell 24: " + x.seat(0, 24) + "; no law of such a number: " + (x.law(3, 0, 0) == Long.MIN_VALUE));
        try {
            x.look(3, 0);
        } catch (IndexOutOfBoundsException e) {
            System.out.println("no surfer 3");
        }
    }
}
