/** What all tests share: telling a TEXT, and counting answers that are not as due. */
final class Due {
    private int asked = 0;
    private int wrong = 0;
    private String part = "";

    void in(String name) {
        part = name;
    }

    void is(String call, long got, long want) {
        asked++;
        if (got != want) {
            wrong++;
            System.out.println(part + ": " + call + " answered " + got + ", due is " + want);
        }
    }

    void is(String call, boolean got, boolean want) {
        is(call, got ? 1 : 0, want ? 1 : 0);
    }

    void that(String what, boolean holds) {
        is(what, holds, true);
    }

    /** Answers of look(), or 1000 for IndexOutOfBoundsException, 2000 for NoSuchElementException. */
    static int look(WhoseWave x, int surfer, int what) {
        try {
            return x.look(surfer, what);
        } catch (IndexOutOfBoundsException e) {
            return 1000;
        } catch (java.util.NoSuchElementException e) {
            return 2000;
        }
    }

    /** Feeds a text, blanks behind it up to twenty bytes, and tells just its own bytes. */
    static int tell(WhoseWave x, String text) {
        feed(x, text);
        return x.text(text.length());
    }

    /** A new object with a text of which every LINE must be taken. */
    WhoseWave told(String text) {
        WhoseWave x = new WhoseWave();
        int lines = 0;
        for (int i = 0; i < text.length(); i++) {
            lines += text.charAt(i) == ';' ? 1 : 0;
        }
        is("text " + text, tell(x, text), lines);
        return x;
    }

    /** A text without a FAULT, and how many LINES it has. */
    void good(String text, int lines) {
        WhoseWave x = new WhoseWave();
        in(text);
        is("text", tell(x, text), lines);
        is("fault(0)", x.fault(0), 0);
        is("fault(1)", x.fault(1), -1);
    }

    /** A text whose FAULT is due where '|' stands. */
    void bad(int kind, String marked) {
        int place = marked.indexOf('|');
        String text = marked.substring(0, place) + marked.substring(place + 1);
        WhoseWave x = new WhoseWave();
        in(marked);
        is("text", tell(x, text), -1);
        is("fault(0)", x.fault(0), kind);
        is("fault(1)", x.fault(1), place);
    }

    static void feed(WhoseWave x, String text) {
        StringBuilder all = new StringBuilder(text);
        while (all.length() % 20 != 0) {
            all.append(' ');
        }
        for (int i = 0; i < all.length(); i += 20) {
            x.feed(four(all, i), four(all, i + 4), four(all, i + 8), four(all, i + 12), four(all, i + 16));
        }
    }

    private static int four(CharSequence text, int at) {
        int number = 0;
        for (int i = 0; i < 4; i++) {
            number = number << 8 | (text.charAt(at + i) & 255);
        }
        return number;
    }

    void end() {
        System.out.println(wrong == 0 ? "all " + asked + " answers are as due" : wrong + " of " + asked + " answers are not as due");
        if (wrong != 0 || asked == 0) {
            System.exit(1);
        }
    }
}
