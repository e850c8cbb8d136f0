import java.util.ArrayDeque;
import java.util.ArrayList;
import java.util.Deque;
import java.util.List;
import java.util.Random;

/** Runs of calls by chance, each answer compared with the Mirror's. */
public final class MirrorTest {
    private final Random random;
    private final Due due;
    private WhoseWave x;
    private Mirror m;
    private Mirror image;
    private final Deque<Mirror> undos = new ArrayDeque<>();
    private final List<int[]> notes = new ArrayList<>();
    private int known;

    private MirrorTest(long seed, Due due) {
        random = new Random(seed);
        this.due = due;
        due.in("seed " + seed);
    }

    // ---- texts by chance
    private int upTo(int most) {
        return random.nextInt(most + 1);
    }

    private int between(int least, int most) {
        return least + random.nextInt(most - least + 1);
    }

    private String part(int depth) {
        int what = random.nextInt(depth > 3 ? 2 : 3);
        if (what == 0) {
            return Integer.toString(random.nextInt(8) == 0 ? upTo(9999) : upTo(12));
        }
        if (what == 1) {
            return Mirror.NAMES.get(random.nextInt(6));
        }
        return "(" + formula(depth + 1) + ")";
    }

    private String sum(int depth) {
        StringBuilder all = new StringBuilder(part(depth));
        int more = random.nextInt(3);
        for (int i = 0; i < more; i++) {
            all.append(' ').append("+-*/".charAt(random.nextInt(4))).append(random.nextBoolean() ? "" : " ").append(part(depth));
        }
        return all.toString();
    }

    private String formula(int depth) {
        String all = random.nextInt(6) == 0 ? "not " : "";
        all += sum(depth);
        if (random.nextInt(4) == 0) {
            String[] signs = {"<", "<=", "=", "<>", ">=", ">"};
            all += signs[random.nextInt(6)] + sum(depth);
        }
        if (random.nextInt(5) == 0 && depth < 3) {
            all += (random.nextBoolean() ? " and " : " or ") + formula(depth + 1);
        }
        return all;
    }

    private String text() {
        StringBuilder all = new StringBuilder();
        int wide = 6;
        int high = 4;
        if (random.nextInt(4) != 0) {
            wide = between(1, 8);
            high = between(1, 6);
            all.append("sea ").append(wide).append(' ').append(high).append(";");
        }
        List<String> lines = new ArrayList<>();
        if (random.nextInt(4) != 0) {
            lines.add("peak " + upTo(wide - 1) + " " + upTo(high - 1));
        }
        String[] names = {"a", "bo", "cyd", "dora", "emilia"};
        int surfers = random.nextInt(10) == 0 ? 0 : between(1, 5);
        for (int i = 0; i < surfers; i++) {
            int[] bolds = {0, 0, 10, 30, 60, 100};
            lines.add("surfer " + names[i] + " " + upTo(wide - 1) + " " + upTo(high - 1) + " " + between(1, 9) + " "
                + between(1, 3) + " " + bolds[random.nextInt(6)] + " " + upTo(100));
        }
        if (random.nextInt(3) != 0) {
            lines.add("bank " + between(1, random.nextBoolean() ? 3 : 20) + " " + between(1, 6) + " " + between(1, 9));
        }
        if (random.nextBoolean()) {
            lines.add("rule " + Mirror.RULES.get(random.nextInt(4)));
        }
        if (random.nextInt(3) != 0) {
            lines.add("seed " + upTo(99999));
        }
        if (random.nextBoolean()) {
            String[] likely = {"100 - far * 10 + board", "60 + which", "board * size * 2 - side * 10", "100 / far", formula(0), formula(0)};
            lines.add("law catch " + likely[random.nextInt(6)]);
        }
        if (random.nextBoolean()) {
            lines.add("law drift " + (random.nextBoolean() ? "minute - 3" : formula(1)));
        }
        if (random.nextBoolean()) {
            lines.add("law away " + (random.nextBoolean() ? "which" : formula(1)));
        }
        for (int i = lines.size() - 1; i > 0; i--) {
            int k = random.nextInt(i + 1);
            String line = lines.get(i);
            if (!line.startsWith("surfer") && !lines.get(k).startsWith("surfer")) {
                lines.set(i, lines.get(k));
                lines.set(k, line);
            }
        }
        int sets = random.nextInt(12) == 0 ? 0 : between(1, 4);
        int minute = upTo(6);
        for (int i = 0; i < sets; i++) {
            StringBuilder set = new StringBuilder("set " + minute);
            int sizes = between(1, 7);
            for (int k = 0; k < sizes; k++) {
                set.append(' ').append(between(1, 9));
            }
            lines.add(set.toString());
            minute += sizes + upTo(9);
        }
        for (String line : lines) {
            all.append(line).append(random.nextInt(5) == 0 ? " ;\n" : ";");
        }
        return all.toString();
    }

    private String spoiled(String text) {
        StringBuilder all = new StringBuilder(text);
        int times = between(1, 2);
        for (int i = 0; i < times && all.length() > 0; i++) {
            int at = random.nextInt(all.length());
            String[] bits = {"9", "0", " ", ";", "(", ")", "<", ">", "=", "not ", "or", "and", "x", "-", "sea 2 2;", "peak 0 0;", "101", "7 ",
                "surfer a 0 0 1 1 1 1;", "set 9 9;", "law away 1;", "seed 1;", "rule out;", "bank 1 1 1;", "#", "A", "\t", "\u00ff", "minutes"};
            switch (random.nextInt(3)) {
                case 0:
                    all.insert(at, bits[random.nextInt(bits.length)]);
                    break;
                case 1:
                    all.delete(at, Math.min(all.length(), at + between(1, 4)));
                    break;
                default:
                    int next = all.indexOf(";", at);
                    all.insert(next < 0 ? 0 : next + 1, bits[random.nextInt(bits.length)]);
            }
        }
        return all.toString();
    }

    private void compareText(String text) {
        if (text.length() > 690) {
            return;
        }
        Mirror read = null;
        int kind = 0;
        int place = -1;
        try {
            read = Mirror.of(text);
        } catch (Mirror.Fault fault) {
            kind = fault.kind;
            place = fault.place;
        }
        due.is("text " + text, Due.tell(x, text), read == null ? -1 : read.lines);
        due.is("fault(0) of " + text, x.fault(0), kind);
        due.is("fault(1) of " + text, x.fault(1), place);
        if (read != null) {
            m = read;
            image = null;
            undos.clear();
            notes.clear();
            known = -1;
        }
    }

    // ---- calls by chance
    private int surfer() {
        return random.nextInt(12) == 0 ? between(-1, 5) : upTo(Math.max(0, m.surfers.size() - 1));
    }

    private int wave() {
        return random.nextInt(12) == 0 ? between(-1, 28) : upTo(Math.max(0, m.waves.size() - 1));
    }

    private int cell() {
        return random.nextInt(12) == 0 ? between(-1, 48) : upTo(m.wide * m.high - 1);
    }

    private int seed() {
        return random.nextInt(10) == 0 ? -1 : random.nextInt() & 0x7fffffff;
    }

    private boolean has(int surfer) {
        return surfer >= 0 && surfer < m.surfers.size();
    }

    private boolean hasWave(int wave) {
        return wave >= 0 && wave < m.waves.size();
    }

    private boolean hasCell(int cell) {
        return cell >= 0 && cell < m.wide * m.high;
    }

    private static long orError(Long value) {
        return value == null ? Long.MIN_VALUE : value;
    }

    private void remember() {
        undos.push(m.copy());
        while (undos.size() > 20) {
            undos.removeLast();
        }
    }

    private void askOne() {
        int s = surfer();
        int w = wave();
        int c = cell();
        int what = between(-1, 7);
        Mirror.Surfer one = has(s) ? m.surfers.get(s) : null;
        Mirror.Wave wv = hasWave(w) ? m.waves.get(w) : null;
        boolean toCome = wv != null && wv.minute >= m.minute;
        switch (random.nextInt(12)) {
            case 0:
                long look = one == null ? 1000 : what < 0 || what > 5 ? 2000 : new int[] {one.y * m.wide + one.x, one.had, one.crossed,
                    one.till, one.pace - one.used, m.far(one.x, one.y, m.minute)}[what];
                due.is("look " + s + " " + what, Due.look(x, s, what), look);
                break;
            case 1:
                long wave = wv == null || what < 0 || what > 4 ? -4 : new int[] {wv.minute, wv.size, wv.set, wv.which, m.who[w]}[what];
                due.is("wave " + w + " " + what, x.wave(w, what), wave);
                break;
            case 2:
                int minute = random.nextInt(8) == 0 ? between(-2, 202) : upTo(40);
                due.is("peak " + minute, x.peak(minute), minute < 0 || minute > 199 ? -1 : m.peakY * m.wide + m.peakXAt(minute));
                break;
            case 3:
                due.is("odds", x.odds(s, w, c), one == null || wv == null || !hasCell(c) ? -1 : m.odds(one, wv, c % m.wide, c / m.wide));
                break;
            case 4:
                what = between(-1, 3);
                Long law = what == 2 ? m.drift(m.minute) : one == null || wv == null ? null
                    : what == 0 ? m.catchValue(one, wv, one.x, one.y) : what == 1 ? m.awayValue(one, wv) : null;
                due.is("law " + what, x.law(what, s, w), orError(law));
                break;
            case 5:
                int k = between(-1, 5);
                long order = !toCome || k < 0 ? -1 : k < m.order(wv).size() ? m.order(wv).get(k) : -2;
                due.is("order " + w + " " + k, x.order(w, k), order);
                break;
            case 6:
                int other = surfer();
                int less = !has(s) || !has(other) ? -1 : Integer.signum(m.far(one.x, one.y, m.minute)
                    - m.far(m.surfers.get(other).x, m.surfers.get(other).y, m.minute));
                due.is("deeper", x.deeper(s, other), !has(s) || !has(other) ? -1 : less == 0 ? 0 : less < 0 ? 1 : 2);
                break;
            case 7:
                due.is("seat", x.seat(s, c), one == null || !hasCell(c) ? -1 : m.seat(one, c % m.wide, c / m.wide, m.minute));
                break;
            case 8:
                int best = one == null ? -1 : 0;
                for (int i = 0; one != null && i < m.wide * m.high; i++) {
                    best = m.seat(one, i % m.wide, i / m.wide, m.minute) > m.seat(one, best % m.wide, best / m.wide, m.minute) ? i : best;
                }
                due.is("best", x.best(s), best);
                break;
            case 9:
                int cost = random.nextInt(9) == 0 ? between(-1, 1000) : upTo(12);
                due.is("go " + s + " " + w + " " + cost, x.go(s, w, cost), one == null || !toCome || cost < 0 || cost > 999 ? -1 : m.go(s, w, cost));
                break;
            case 10:
                due.is("over " + s, x.over(s), one == null || m.bank == null || m.waves.isEmpty() ? -1 : m.over(one));
                break;
            default:
                askCounts();
        }
    }

    private void askCounts() {
        int toCome = 0;
        int next = -2;
        for (Mirror.Wave w : m.waves) {
            if (w.minute >= m.minute) {
                toCome++;
                next = next == -2 && w.which == 1 ? w.minute - m.minute : next;
            }
        }
        int[] counts = {m.wide, m.high, m.surfers.size(), m.sets, m.waves.size(), m.knots, m.minute, m.rule, m.crossed, m.wasted, toCome,
            notes.size(), known < 0 ? notes.size() : known, undos.size(), -1};
        for (int i = 0; i < counts.length; i++) {
            due.is("count " + i, x.count(i), counts[i]);
        }
        due.is("next", x.next(), next);
        due.is("shares 0", x.shares(0), m.surfers.isEmpty() ? -1 : m.unlike());
        due.is("shares 1", x.shares(1), m.surfers.isEmpty() ? -1 : m.had());
        int k = between(1, 7);
        int of = 0;
        int largest = 0;
        int few = 0;
        int all = 0;
        for (int i = 0; i < m.waves.size(); i++) {
            Mirror.Wave w = m.waves.get(i);
            if (w.which == k) {
                of++;
                boolean is = true;
                for (Mirror.Wave v : m.waves) {
                    is &= v.set != w.set || v.size <= w.size;
                }
                largest += is ? 1 : 0;
            }
            if (i > 0 && w.which == 1) {
                all++;
                few += w.minute - m.waves.get(i - 1).minute <= k ? 1 : 0;
            }
        }
        due.is("rank", x.rank(k, 0), largest);
        due.is("rank of", x.rank(k, 1), of);
        due.is("gaps", x.gaps(k, 0), few);
        due.is("all gaps", x.gaps(k, 1), all);
    }

    private void askMany() {
        int s = surfer();
        int other = surfer();
        int seed = seed();
        int k = between(-1, 6);
        switch (random.nextInt(8)) {
            case 0:
            case 1:
                boolean two = has(s) && has(other) && s != other;
                List<Integer> rests = two ? m.rests(s, other) : new ArrayList<>();
                due.is("rests", x.rests(s, other), two ? rests.size() : -1);
                due.is("rest " + k, x.rest(s, other, k), !two || k < 0 ? -1 : k < rests.size() ? rests.get(k) : -2);
                break;
            case 2:
                if (m.waves.size() < 17) {
                    int first = 0;
                    while (first < m.waves.size() && m.waves.get(first).minute < m.minute) {
                        first++;
                    }
                    List<Integer> plan = has(s) ? m.plan(m.surfers.get(s), first, 0) : new ArrayList<>();
                    due.is("plan", x.plan(s), has(s) ? m.planSum(m.surfers.get(s), plan) : -1);
                    for (int i = -1; i < 9; i++) {
                        due.is("planned " + i, x.planned(s, i), !has(s) || i < 0 ? -1 : i < plan.size() ? plan.get(i) : -2);
                    }
                }
                break;
            case 3:
                int rule = random.nextInt(9) == 0 ? between(-1, 4) : upTo(3);
                for (int what = -1; what < 9; what++) {
                    long table = -1;
                    if (rule >= 0 && rule < 4 && seed >= 0 && what >= 0 && what < 8 && (what > 4 || has(what))) {
                        Mirror run = m.run(rule, seed);
                        table = what == 5 ? run.crossed : what == 6 ? run.wasted : what == 7 ? run.unlike() : run.surfers.get(what).had;
                    }
                    due.is("table " + rule + " " + seed + " " + what, x.table(rule, seed, what), table);
                }
                break;
            case 4:
                int best = seed < 0 ? -1 : 0;
                for (int i = 1; seed >= 0 && i < 4; i++) {
                    Mirror a = m.run(best, seed);
                    Mirror b = m.run(i, seed);
                    if (b.unlike() < a.unlike() || b.unlike() == a.unlike() && b.crossed + b.wasted < a.crossed + a.wasted) {
                        best = i;
                    }
                }
                due.is("fairest " + seed, x.fairest(seed), best);
                break;
            case 5:
                int n = random.nextInt(9) == 0 ? between(-1, 29) : upTo(6);
                int often = 0;
                long number = seed;
                for (int i = 0; i < 10 && has(s); i++) {
                    Mirror run = m.run(m.rule, number);
                    number = run.number;
                    often += run.surfers.get(s).had >= n ? 1 : 0;
                }
                due.is("chance " + seed, x.chance(seed, s, n), !has(s) || seed < 0 || n < 0 || n > 28 ? -1 : often);
                break;
            default:
                int what = between(-1, 5);
                int i = what == 1 || what == 4 ? s : random.nextInt(5) == 0 ? 1 : 0;
                due.is("tried " + what + " " + i + " " + seed, x.tried(what, i, seed), tried(what, i, seed));
        }
    }

    private int tried(int what, int i, int seed) {
        if (what < 0 || what > 4 || seed < 0 || (what == 1 || what == 4 ? !has(i) : i != 0)) {
            return -1;
        }
        Mirror t = m.copy();
        t.absent = what == 1 ? i : -1;
        t.peakStill = what == 2;
        for (Mirror.Surfer s : t.surfers) {
            s.bold = what == 0 ? 0 : s.bold;
            s.board = what == 3 ? 9 : s.board;
            s.x = what == 4 ? m.surfers.get(i).x : s.x;
            s.y = what == 4 ? m.surfers.get(i).y : s.y;
        }
        return t.run(m.rule, seed).had();
    }

    private void change() {
        switch (random.nextInt(9)) {
            case 0:
            case 1:
                int s = surfer();
                int way = random.nextInt(8) == 0 ? between(-1, 4) : upTo(3);
                int to = -1;
                if (has(s) && way >= 0 && way < 4) {
                    Mirror.Surfer one = m.surfers.get(s);
                    int nx = one.x + (way == 1 ? 1 : way == 3 ? -1 : 0);
                    int ny = one.y + (way == 2 ? 1 : way == 0 ? -1 : 0);
                    to = -2;
                    if (nx >= 0 && ny >= 0 && nx < m.wide && ny < m.high && one.till == 0 && one.used < one.pace) {
                        remember();
                        one.x = nx;
                        one.y = ny;
                        one.used++;
                        to = ny * m.wide + nx;
                    }
                }
                due.is("stroke " + s + " " + way, x.stroke(s, way), to);
                break;
            case 2:
                int times = random.nextInt(6) == 0 ? 25 : 1;
                for (int i = 0; i < times; i++) {
                    int rule = random.nextInt(8) == 0 ? between(-1, 4) : upTo(3);
                    boolean changes = rule >= 0 && rule < 4 && rule != m.rule;
                    if (changes) {
                        remember();
                        m.rule = rule;
                    }
                    due.is("rule " + rule, x.rule(rule), changes);
                }
                break;
            case 3:
            case 4:
                int n = random.nextInt(12) == 0 ? between(-1, 100) : upTo(3);
                boolean goes = n >= 0 && n <= 99 && m.minute + n <= 199;
                for (int i = 0; goes && i < n; i++) {
                    m.oneMinute();
                    undos.clear();
                }
                due.is("minutes " + n, x.minutes(n), goes ? m.minute : -1);
                break;
            case 5:
                if (!undos.isEmpty()) {
                    m = undos.pop();
                    due.is("undo", x.undo(), undos.size());
                } else {
                    due.is("undo", x.undo(), -1);
                }
                break;
            case 6:
                if (random.nextInt(3) == 0) {
                    image = m.copy();
                    due.is("keep", x.keep(), m.minute);
                } else if (random.nextInt(3) == 0) {
                    if (image != null) {
                        m = image.copy();
                        undos.clear();
                    }
                    due.is("back", x.back(), image == null ? -1 : m.minute);
                }
                break;
            default:
                takeNotes();
        }
    }

    private boolean struck(int note, int by) {
        for (int i = note + 1; i < by; i++) {
            if (notes.get(i)[0] < 0 && notes.get(i)[1] == note && !struck(i, by)) {
                return true;
            }
        }
        return false;
    }

    private void takeNotes() {
        int minute = random.nextInt(9) == 0 ? between(-1, 200) : upTo(30);
        int s = surfer();
        int c = cell();
        if (random.nextInt(3) == 0) {
            int note = between(-1, notes.size());
            boolean fits = note >= 0 && note < notes.size() && notes.size() < 24;
            due.is("strike " + note, x.strike(note), fits ? notes.size() : -1);
            if (fits) {
                notes.add(new int[] {-1, note});
            }
        } else {
            boolean fits = minute >= 0 && minute < 200 && has(s) && hasCell(c) && notes.size() < 24;
            due.is("note", x.note(minute, s, c), fits ? notes.size() : -1);
            if (fits) {
                notes.add(new int[] {minute, s, c});
            }
        }
        if (random.nextInt(4) == 0) {
            int n = between(-2, notes.size() + 1);
            boolean fits = n >= -1 && n <= notes.size();
            due.is("known " + n, x.known(n), fits);
            known = fits ? n : known;
        }
        int d = random.nextInt(9) == 0 ? between(-1, 13) : upTo(6);
        due.is("locals " + d, x.locals(d), d < 0 || d > 12 ? -1 : locals(d));
    }

    private int locals(int d) {
        int by = known < 0 ? notes.size() : known;
        int bits = 0;
        for (int s = 0; s < m.surfers.size(); s++) {
            int near = 0;
            int all = 0;
            for (int i = 0; i < by; i++) {
                int[] note = notes.get(i);
                if (note[0] < 0 || note[1] != s || struck(i, by)) {
                    continue;
                }
                for (Mirror.Wave w : m.waves) {
                    if (w.which == 1 && w.minute >= note[0]) {
                        all++;
                        near += m.far(note[2] % m.wide, note[2] / m.wide, w.minute) <= d ? 1 : 0;
                        break;
                    }
                }
            }
            bits |= all > 0 && near == all ? 1 << s : 0;
        }
        return bits;
    }

    private void oneRun() {
        x = new WhoseWave();
        m = Mirror.of("");
        known = -1;
        for (int i = 0; i < 6; i++) {
            String text = text();
            compareText(spoiled(text));
            if (i % 3 == 0) {
                compareText(text);
            }
            for (int k = 0; k < 8; k++) {
                change();
                askOne();
                askOne();
                askOne();
                if (k % 2 == 0) {
                    askMany();
                }
            }
        }
    }

    public static void main(String[] args) {
        Due due = new Due();
        int runs = args.length > 0 ? Integer.parseInt(args[0]) : 3000;
        for (int i = 0; i < runs; i++) {
            new MirrorTest(i, due).oneRun();
        }
        due.end();
    }
}
