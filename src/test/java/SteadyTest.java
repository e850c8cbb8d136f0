import java.util.Random;

/** Whatever numbers come in whatever state: nothing is thrown but what the document tells. */
public final class SteadyTest {
    private static final int[] EDGES = {
        Integer.MIN_VALUE, Integer.MIN_VALUE + 1, -4, -3, -2, -1, 0, 1, 2, 3, 4, 5, 6, 7, 8, 11, 12, 13, 20, 23, 24, 27, 28, 29,
        47, 48, 99, 100, 101, 198, 199, 200, 700, 999, 1000, 33554432, Integer.MAX_VALUE - 1, Integer.MAX_VALUE};
    private static final String[] TEXTS = {
        "", "set 0 1;", "surfer a 0 0 1 1 0 0;", "sea 1 1;surfer a 0 0 1 1 100 100;set 99 9 9 9 9 9 9 9;bank 20 20 9;",
        "sea 8 6;peak 7 5;surfer a 0 0 1 1 0 0;surfer b 7 5 9 3 100 100;surfer c 3 3 5 2 50 50;surfer d 4 4 4 1 30 3;"
            + "surfer e 7 0 2 2 99 1;set 0 1 2 3 4 5 6 7;set 10 9 9 9;set 20 1;set 98 3 3 3;bank 1 1 1;rule each;seed 99999;"
            + "law catch 9999 * 9999 * 9999 * far - side;law drift minute / (minute - 5);law away 10 - which * size;",
        "sea 8 6;surfer a 7 5 1 1 9 9;surfer b 7 5 9 3 10 10;surfer c 0 0 5 2 5 50;surfer d 0 5 4 1 30 3;surfer e 7 0 2 2 9 1;"
            + "set 0 1 2 3 4 5 6 7;set 7 9 9 9 9 9 9 9;set 15 1 1 1 1 1 1 1;set 22 7 6 5 4 3 2 1;bank 20 1 9;law catch 90;law away 1;"};

    private final Random random = new Random(4711);
    private final Due due = new Due();

    private int number() {
        if (random.nextInt(3) == 0) {
            return EDGES[random.nextInt(EDGES.length)];
        }
        return random.nextInt(8) - 1;
    }

    private long call(WhoseWave x, int which) {
        int a = number();
        int b = number();
        int c = number();
        switch (which) {
            case 0: return x.feed(a, b, c, number(), number());
            case 1: return x.text(a);
            case 2: return x.fault(a);
            case 3: return x.named(a);
            case 4: return Due.look(x, a, b);
            case 5: return x.wave(a, b);
            case 6: return x.peak(a);
            case 7: return x.odds(a, b, c);
            case 8: return x.law(a, b, c);
            case 9: return x.stroke(a, b);
            case 10: return x.rule(a) ? 1 : 0;
            case 11: return x.minutes(a);
            case 12: return x.order(a, b);
            case 13: return x.deeper(a, b);
            case 14: return x.seat(a, b);
            case 15: return x.best(a);
            case 16: return x.rests(a, b);
            case 17: return x.rest(a, b, c);
            case 18: return x.rank(a, b);
            case 19: return x.plan(a);
            case 20: return x.planned(a, b);
            case 21: return x.go(a, b, c);
            case 22: return x.give(a, b, c);
            case 23: return x.table(a, b, c);
            case 24: return x.fairest(a);
            case 25: return x.over(a);
            case 26: return x.next();
            case 27: return x.gaps(a, b);
            case 28: return x.shares(a);
            case 29: return x.note(a, b, c);
            case 30: return x.strike(a);
            case 31: return x.known(a) ? 1 : 0;
            case 32: return x.locals(a);
            case 33: return x.chance(a, b, c);
            case 34: return x.tried(a, b, c);
            case 35: return x.undo();
            case 36: return x.keep();
            case 37: return x.back();
            default: return x.count(a);
        }
    }

    private void oneObject(int which) {
        WhoseWave x = new WhoseWave();
        WhoseWave twin = new WhoseWave();
        String text = TEXTS[which % TEXTS.length];
        Due.tell(x, text);
        Due.tell(twin, text);
        for (int i = 0; i < 440; i++) {
            int call = random.nextInt(39);
            if (call == 1 && random.nextInt(20) != 0) {
                continue;
            }
            long seed = random.nextLong();
            random.setSeed(seed);
            long got;
            try {
                got = call(x, call);
            } catch (RuntimeException e) {
                due.that("call " + call + " with the numbers of " + seed + " throws " + e, false);
                return;
            }
            random.setSeed(seed);
            due.is("the same call " + call + " on the same object", call(twin, call), got);
        }
    }

    public static void main(String[] args) {
        SteadyTest test = new SteadyTest();
        test.due.in("steady");
        for (int i = 0; i < 400; i++) {
            test.oneObject(i);
        }
        test.due.end();
    }
}
