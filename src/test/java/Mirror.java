import java.math.BigInteger;
import java.util.ArrayList;
import java.util.Arrays;
import java.util.Comparator;
import java.util.HashMap;
import java.util.List;
import java.util.Map;

/** The document told once more, slowly and by other means, to compare the class with. */
final class Mirror {
    static final class Fault extends RuntimeException {
        private static final long serialVersionUID = 1L;
        final int kind;
        final int place;

        Fault(int kind, int place) {
            this.kind = kind;
            this.place = place;
        }
    }

    static final class Wrong extends RuntimeException {
        private static final long serialVersionUID = 1L;
    }

    static final class Surfer {
        String name;
        int x, y, board, pace, bold, bent, had, crossed, till, used;

        Surfer copy() {
            Surfer s = new Surfer();
            s.name = name;
            s.x = x;
            s.y = y;
            s.board = board;
            s.pace = pace;
            s.bold = bold;
            s.bent = bent;
            s.had = had;
            s.crossed = crossed;
            s.till = till;
            s.used = used;
            return s;
        }
    }

    static final class Wave {
        int minute, size, set, which;
    }

    interface Tree {
        BigInteger of(Map<String, Integer> names);
    }

    static final List<String> LANGUAGE = Arrays.asList("sea", "peak", "surfer", "set", "bank", "rule", "seed", "law", "deep", "turns",
        "each", "out", "catch", "drift", "away", "not", "and", "or", "far", "side", "board", "size", "minute", "which");
    static final List<String> RULES = Arrays.asList("deep", "turns", "each", "out");
    static final List<String> NAMES = Arrays.asList("far", "side", "board", "size", "minute", "which");
    static final List<String> SIGNS = Arrays.asList("<=", "<>", ">=", "<", "=", ">", "+", "-", "*", "/", "(", ")", ";");

    // ---- what the text tells
    int wide = 6, high = 4, peakX = 0, peakY = 0, lines = 0, knots = 0;
    int[] bank = null;
    List<Wave> waves = new ArrayList<>();
    int sets = 0;
    Map<String, Tree> laws = new HashMap<>();

    // ---- how it is now
    List<Surfer> surfers = new ArrayList<>();
    int rule = 0, minute = 0, crossed = 0, wasted = 0;
    long number = 0;
    int[] who = new int[28];
    boolean peakStill = false;
    int absent = -1;

    // ---- reading
    private String text;
    private final List<String> tokens = new ArrayList<>();
    private final List<Integer> places = new ArrayList<>();
    private int at = 0;
    private int open = 0;

    static Mirror of(String text) {
        Mirror m = new Mirror();
        m.text = text;
        m.cut();
        m.readLines();
        Arrays.fill(m.who, -2);
        return m;
    }

    private void cut() {
        int i = 0;
        while (i < text.length()) {
            char c = text.charAt(i);
            if (c == 10 || c == 32) {
                i++;
                continue;
            }
            int from = i;
            if (c >= 'a' && c <= 'z') {
                while (i < text.length() && text.charAt(i) >= 'a' && text.charAt(i) <= 'z') {
                    i++;
                }
            } else if (c >= '0' && c <= '9') {
                while (i < text.length() && text.charAt(i) >= '0' && text.charAt(i) <= '9') {
                    i++;
                }
            } else {
                i++;
                for (String s : SIGNS) {
                    if (s.length() == 2 && text.startsWith(s, from)) {
                        i = from + 2;
                    }
                }
            }
            tokens.add(text.substring(from, i));
            places.add(from);
        }
        tokens.add("");
        places.add(text.length());
    }

    private Fault fault(int kind) {
        return new Fault(kind, places.get(at));
    }

    private String now() {
        return tokens.get(at);
    }

    private boolean isNumber() {
        return !now().isEmpty() && Character.isDigit(now().charAt(0)) && now().charAt(0) < 128;
    }

    private int number(int least, int most) {
        if (!isNumber()) {
            throw fault(1);
        }
        BigInteger n = new BigInteger(now());
        if (n.compareTo(BigInteger.valueOf(least)) < 0 || n.compareTo(BigInteger.valueOf(most)) > 0) {
            throw fault(2);
        }
        at++;
        return n.intValue();
    }

    private void expect(String token) {
        if (!now().equals(token)) {
            throw fault(1);
        }
        at++;
    }

    private void readLines() {
        List<String> told = new ArrayList<>();
        while (!now().isEmpty()) {
            String word = now();
            if (!LANGUAGE.subList(0, 8).contains(word)) {
                throw fault(1);
            }
            if (word.equals("surfer") && surfers.size() == 5 || word.equals("set") && sets == 4) {
                throw fault(2);
            }
            if (told.contains(word) && !Arrays.asList("surfer", "set", "law").contains(word)) {
                throw fault(3);
            }
            if (word.equals("sea") && (told.contains("peak") || told.contains("surfer"))) {
                throw fault(4);
            }
            told.add(word);
            at++;
            readRest(word);
            expect(";");
            lines++;
        }
    }

    private void readRest(String word) {
        switch (word) {
            case "sea":
                wide = number(1, 8);
                high = number(1, 6);
                break;
            case "peak":
                peakX = number(0, wide - 1);
                peakY = number(0, high - 1);
                break;
            case "surfer":
                readSurfer();
                break;
            case "set":
                readSet();
                break;
            case "bank":
                bank = new int[] {number(1, 20), number(1, 20), number(1, 9)};
                break;
            case "rule":
                if (!RULES.contains(now())) {
                    throw fault(1);
                }
                rule = RULES.indexOf(now());
                at++;
                break;
            case "seed":
                number = number(0, 99999);
                break;
            default:
                String kind = now();
                if (!Arrays.asList("catch", "drift", "away").contains(kind)) {
                    throw fault(1);
                }
                if (laws.containsKey(kind)) {
                    throw fault(3);
                }
                at++;
                open = 0;
                laws.put(kind, readOr());
        }
    }

    private void readSurfer() {
        Surfer s = new Surfer();
        s.name = now();
        if (!s.name.matches("[a-z]{1,6}") || LANGUAGE.contains(s.name)) {
            throw fault(1);
        }
        for (Surfer other : surfers) {
            if (other.name.equals(s.name)) {
                throw fault(3);
            }
        }
        at++;
        s.x = number(0, wide - 1);
        s.y = number(0, high - 1);
        s.board = number(1, 9);
        s.pace = number(1, 3);
        s.bold = number(0, 100);
        s.bent = number(0, 100);
        surfers.add(s);
    }

    private void readSet() {
        int first = number(0, 99);
        if (sets > 0 && first <= waves.get(waves.size() - 1).minute) {
            at--;
            throw fault(5);
        }
        int k = 0;
        do {
            if (k == 7) {
                throw fault(2);
            }
            Wave w = new Wave();
            w.size = number(1, 9);
            w.minute = first + k;
            w.set = sets;
            k++;
            w.which = k;
            waves.add(w);
        } while (isNumber());
        sets++;
    }

    private void knot() {
        if (knots == 64) {
            throw fault(2);
        }
        knots++;
        at++;
    }

    private static BigInteger bit(boolean b) {
        return b ? BigInteger.ONE : BigInteger.ZERO;
    }

    private static BigInteger sound(BigInteger v) {
        if (v.abs().compareTo(BigInteger.TEN.pow(12)) > 0) {
            throw new Wrong();
        }
        return v;
    }

    private Tree readOr() {
        Tree left = readAnd();
        while (now().equals("or")) {
            knot();
            Tree one = left;
            Tree two = readAnd();
            left = n -> bit(one.of(n).signum() != 0 | two.of(n).signum() != 0);
        }
        return left;
    }

    private Tree readAnd() {
        Tree left = readNot();
        while (now().equals("and")) {
            knot();
            Tree one = left;
            Tree two = readNot();
            left = n -> bit(one.of(n).signum() != 0 & two.of(n).signum() != 0);
        }
        return left;
    }

    private Tree readNot() {
        if (now().equals("not")) {
            knot();
            Tree of = readNot();
            return n -> bit(of.of(n).signum() == 0);
        }
        Tree one = readSum();
        String sign = now();
        if (!Arrays.asList("<", "<=", "=", "<>", ">=", ">").contains(sign)) {
            return one;
        }
        knot();
        Tree two = readSum();
        return n -> {
            int c = one.of(n).compareTo(two.of(n));
            switch (sign) {
                case "<": return bit(c < 0);
                case "<=": return bit(c <= 0);
                case "=": return bit(c == 0);
                case "<>": return bit(c != 0);
                case ">=": return bit(c >= 0);
                default: return bit(c > 0);
            }
        };
    }

    private Tree readSum() {
        Tree left = readProduct();
        while (now().equals("+") || now().equals("-")) {
            boolean plus = now().equals("+");
            knot();
            Tree one = left;
            Tree two = readProduct();
            left = n -> sound(plus ? one.of(n).add(two.of(n)) : one.of(n).subtract(two.of(n)));
        }
        return left;
    }

    private Tree readProduct() {
        Tree left = readPart();
        while (now().equals("*") || now().equals("/")) {
            boolean times = now().equals("*");
            knot();
            Tree one = left;
            Tree two = readPart();
            left = n -> {
                BigInteger a = one.of(n);
                BigInteger b = two.of(n);
                if (!times && b.signum() == 0) {
                    throw new Wrong();
                }
                return sound(times ? a.multiply(b) : a.divide(b));
            };
        }
        return left;
    }

    private Tree readPart() {
        if (now().equals("(")) {
            if (open == 8) {
                throw fault(2);
            }
            open++;
            at++;
            Tree inside = readOr();
            expect(")");
            open--;
            return inside;
        }
        if (NAMES.contains(now())) {
            String name = now();
            knot();
            return n -> BigInteger.valueOf(n.getOrDefault(name, 0));
        }
        int value = number(0, 9999);
        at--;
        knot();
        return n -> BigInteger.valueOf(value);
    }

    // ---- the laws
    Long drift(int m) {
        Map<String, Integer> names = new HashMap<>();
        names.put("minute", m);
        return valueOf("drift", names);
    }

    private Long valueOf(String kind, Map<String, Integer> names) {
        if (!laws.containsKey(kind)) {
            return null;
        }
        try {
            return laws.get(kind).of(names).longValueExact();
        } catch (Wrong e) {
            return null;
        }
    }

    int peakXAt(int m) {
        Long drift = drift(m);
        int x = peakX;
        if (drift != null && !peakStill) {
            x += (int) Math.max(-8, Math.min(8, drift));
        }
        return Math.max(0, Math.min(wide - 1, x));
    }

    int far(int x, int y, int m) {
        return Math.abs(x - peakXAt(m)) + Math.abs(y - peakY);
    }

    private Map<String, Integer> awayNames(Surfer s, Wave w) {
        Map<String, Integer> names = new HashMap<>();
        names.put("board", s.board);
        names.put("size", w.size);
        names.put("minute", w.minute);
        names.put("which", w.which);
        return names;
    }

    Long catchValue(Surfer s, Wave w, int x, int y) {
        Map<String, Integer> names = awayNames(s, w);
        names.put("far", far(x, y, w.minute));
        names.put("side", y - peakY);
        return valueOf("catch", names);
    }

    Long awayValue(Surfer s, Wave w) {
        return valueOf("away", awayNames(s, w));
    }

    int odds(Surfer s, Wave w, int x, int y) {
        Long v = catchValue(s, w, x, y);
        return v == null ? Math.max(0, 100 - 20 * far(x, y, w.minute)) : (int) Math.max(0, Math.min(100, v));
    }

    int away(Surfer s, Wave w) {
        Long v = awayValue(s, w);
        return v == null ? 5 : (int) Math.max(1, Math.min(30, v));
    }

    // ---- minutes
    private int hundredth() {
        number = (number * 1103515245L + 12345L) % 2147483648L;
        return (int) (number / 65536 % 100);
    }

    boolean hadOfSet(int s, int set) {
        for (int i = 0; i < waves.size(); i++) {
            if (waves.get(i).set == set && who[i] == s) {
                return true;
            }
        }
        return false;
    }

    Comparator<Integer> byRule(Wave w) {
        Comparator<Integer> byFar = Comparator.comparingInt(s -> far(surfers.get(s).x, surfers.get(s).y, w.minute));
        Comparator<Integer> first;
        switch (rule) {
            case 0: first = byFar; break;
            case 1: first = Comparator.comparingInt(s -> surfers.get(s).had); break;
            case 2: first = Comparator.<Integer>comparingInt(s -> hadOfSet(s, w.set) ? 1 : 0).thenComparing(byFar); break;
            default: first = Comparator.comparingInt(s -> -surfers.get(s).y);
        }
        return first.thenComparing(Comparator.naturalOrder());
    }

    List<Integer> order(Wave w) {
        List<Integer> line = new ArrayList<>();
        for (int i = 0; i < surfers.size(); i++) {
            Surfer s = surfers.get(i);
            if (s.till == 0 && i != absent && odds(s, w, s.x, s.y) > 0) {
                line.add(i);
            }
        }
        line.sort(byRule(w));
        return line;
    }

    void oneMinute() {
        for (int i = 0; i < waves.size(); i++) {
            if (waves.get(i).minute == minute) {
                bring(i);
            }
        }
        minute++;
        for (Surfer s : surfers) {
            if (s.till == minute) {
                s.till = 0;
            }
            s.used = 0;
        }
    }

    private void bring(int i) {
        Wave w = waves.get(i);
        List<Integer> line = order(w);
        int k = 0;
        while (k < line.size()) {
            Surfer s = surfers.get(line.get(k));
            if (hundredth() < odds(s, w, s.x, s.y)) {
                break;
            }
            k++;
        }
        if (k == line.size()) {
            who[i] = -1;
            wasted++;
            return;
        }
        Surfer rider = surfers.get(line.get(k));
        for (int j = k + 1; j < line.size(); j++) {
            Surfer s = surfers.get(line.get(j));
            if (s.bold > 0 && hundredth() < s.bold) {
                who[i] = -3;
                crossed++;
                s.crossed++;
                rider.crossed++;
                s.till = minute + 2 * away(s, w);
                rider.till = minute + 2 * away(rider, w);
                return;
            }
        }
        who[i] = line.get(k);
        rider.had++;
        rider.till = minute + away(rider, w);
    }

    Mirror copy() {
        Mirror m = new Mirror();
        m.wide = wide;
        m.high = high;
        m.peakX = peakX;
        m.peakY = peakY;
        m.lines = lines;
        m.knots = knots;
        m.bank = bank;
        m.waves = waves;
        m.sets = sets;
        m.laws = laws;
        for (Surfer s : surfers) {
            m.surfers.add(s.copy());
        }
        m.rule = rule;
        m.minute = minute;
        m.crossed = crossed;
        m.wasted = wasted;
        m.number = number;
        m.who = who.clone();
        m.peakStill = peakStill;
        m.absent = absent;
        return m;
    }

    int last() {
        return waves.isEmpty() ? -1 : waves.get(waves.size() - 1).minute;
    }

    Mirror run(int byRule, long seed) {
        Mirror m = copy();
        m.rule = byRule;
        m.number = seed;
        m.crossed = 0;
        m.wasted = 0;
        while (m.minute <= m.last()) {
            m.oneMinute();
        }
        return m;
    }

    int unlike() {
        int most = 0;
        int fewest = surfers.isEmpty() ? 0 : 1000;
        for (Surfer s : surfers) {
            most = Math.max(most, s.had);
            fewest = Math.min(fewest, s.had);
        }
        return most - fewest;
    }

    int had() {
        int sum = 0;
        for (int i = 0; i < surfers.size(); i++) {
            sum += surfers.get(i).had;
        }
        return sum;
    }

    int seat(Surfer s, int x, int y, int from) {
        int sum = 0;
        for (Wave w : waves) {
            sum += w.minute >= from ? odds(s, w, x, y) * w.size : 0;
        }
        return sum;
    }

    // ---- the game
    private static final int[] DX = {0, 1, 0, -1, 0};
    private static final int[] DY = {-1, 0, 1, 0, 0};

    private boolean inside(Surfer s, int way) {
        int x = s.x + DX[way];
        int y = s.y + DY[way];
        return x >= 0 && x < wide && y >= 0 && y < high;
    }

    private int gain(int me, int myWay, int they, int theirWay) {
        Surfer a = surfers.get(me);
        Surfer b = surfers.get(they);
        int sum = 0;
        for (Wave w : waves) {
            int mine = far(a.x + DX[myWay], a.y + DY[myWay], w.minute);
            int theirs = far(b.x + DX[theirWay], b.y + DY[theirWay], w.minute);
            if (w.minute >= minute && (mine < theirs || mine == theirs && me < they)) {
                sum += odds(a, w, a.x + DX[myWay], a.y + DY[myWay]) * w.size;
            }
        }
        return sum;
    }

    List<Integer> rests(int one, int other) {
        List<Integer> found = new ArrayList<>();
        int[] ways = {4, 0, 1, 2, 3};
        for (int a : ways) {
            for (int b : ways) {
                if (!inside(surfers.get(one), a) || !inside(surfers.get(other), b)) {
                    continue;
                }
                boolean rests = true;
                for (int c : ways) {
                    rests &= !inside(surfers.get(one), c) || gain(one, c, other, b) <= gain(one, a, other, b);
                    rests &= !inside(surfers.get(other), c) || gain(other, c, one, a) <= gain(other, b, one, a);
                }
                if (rests) {
                    found.add(10 * a + b);
                }
            }
        }
        return found;
    }

    // ---- the plan: the greatest sum, the earlier wave rather than not
    List<Integer> plan(Surfer s, int from, int free) {
        if (from >= waves.size()) {
            return new ArrayList<>();
        }
        Wave w = waves.get(from);
        List<Integer> without = plan(s, from + 1, free);
        if (w.minute < free) {
            return without;
        }
        List<Integer> with = new ArrayList<>();
        with.add(from);
        with.addAll(plan(s, from + 1, w.minute + away(s, w)));
        return planSum(s, with) >= planSum(s, without) ? with : without;
    }

    int planSum(Surfer s, List<Integer> plan) {
        int sum = 0;
        for (int i : plan) {
            sum += odds(s, waves.get(i), s.x, s.y) * waves.get(i).size;
        }
        return sum;
    }

    int go(int i, int wave, int cost) {
        Surfer s = surfers.get(i);
        Wave w = waves.get(wave);
        int none = 100;
        for (int other : order(w)) {
            if (byRule(w).compare(i, other) < 0) {
                none = none * (100 - surfers.get(other).bold) / 100;
            }
        }
        return odds(s, w, s.x, s.y) * w.size > cost * (100 - none) ? 1 : 0;
    }

    int over(Surfer s) {
        for (int m = minute; m <= last(); m++) {
            int there = 0;
            for (int t = m + bank[0]; t <= last(); t += bank[1]) {
                there += 100 * bank[2];
            }
            if (there > seat(s, s.x, s.y, m)) {
                return m;
            }
        }
        return -2;
    }
}
