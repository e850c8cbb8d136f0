import java.util.NoSuchElementException;

public final class WhoseWave {
    public static final int NONE = -1;

    private static final int NOT_SO = -2;
    private static final int CROSSED_BY_ONE = -3;
    private static final int NO_WAVE = -4;

    private static final int MOST_BYTES = 700;
    private static final int MOST_SURFERS = 5;
    private static final int MOST_SETS = 4;
    private static final int MOST_SIZES = 7;
    private static final int MOST_WAVES = 28;
    private static final int MOST_NOTES = 24;
    private static final int MOST_KNOTS = 64;
    private static final int MOST_OPEN = 8;
    private static final int MOST_UNDONE = 20;
    private static final int LAST_MINUTE = 199;
    private static final int FARTHEST = 12;
    private static final int WAYS = 5;
    private static final int STAY = 4;

    private static final int DEEP = 0;
    private static final int TURNS = 1;
    private static final int EACH = 2;
    private static final int OUT = 3;
    private static final int RULES = 4;

    private static final int CATCH = 0;
    private static final int DRIFT = 1;
    private static final int AWAY = 2;
    private static final int KINDS = 3;

    private static final int FAR = 0;
    private static final int SIDE = 1;
    private static final int BOARD = 2;
    private static final int SIZE = 3;
    private static final int MINUTE = 4;
    private static final int WHICH = 5;
    private static final int NAMES = 6;

    // The language's words by their numbers as TOKENS, six signs to each.
    private static final String LANGUAGE =
        "sea   peak  surferset   bank  rule  seed  law   deep  turns each  out   catch drift away  not   and   or    far   side  board size  minutewhich ";
    private static final int LETTERS = 6;
    private static final int WORDS = 24;
    private static final int WORD_SEA = 0;
    private static final int WORD_PEAK = 1;
    private static final int WORD_SURFER = 2;
    private static final int WORD_SET = 3;
    private static final int WORD_BANK = 4;
    private static final int WORD_RULE = 5;
    private static final int WORD_SEED = 6;
    private static final int WORD_LAW = 7;
    private static final int FIRST_RULE = 8;
    private static final int FIRST_KIND = 12;
    private static final int WORD_NOT = 15;
    private static final int WORD_AND = 16;
    private static final int WORD_OR = 17;
    private static final int FIRST_NAME = 18;
    private static final int OWN_WORD = 24;
    private static final int NUMBER = 25;
    private static final int LESS = 26;
    private static final int LESS_OR_LIKE = 27;
    private static final int LIKE = 28;
    private static final int NOT_LIKE = 29;
    private static final int MORE_OR_LIKE = 30;
    private static final int MORE = 31;
    private static final int PLUS = 32;
    private static final int MINUS = 33;
    private static final int TIMES = 34;
    private static final int BY = 35;
    private static final int OPEN = 36;
    private static final int CLOSE = 37;
    private static final int STOP = 38;
    private static final int END = 39;
    private static final int NO_TOKEN = 40;

    private static final int FAULT_TOKEN = 1;
    private static final int FAULT_TOO_MUCH = 2;
    private static final int FAULT_TOLD = 3;
    private static final int FAULT_SEA_LATE = 4;
    private static final int FAULT_SET_EARLY = 5;

    // Above all numbers that a TEXT may tell; longer digits stay here, so that they can't wrap.
    private static final int BEYOND_ALL = 1000000;
    private static final int MOST_OF_FORMULA = 9999;
    // A KNOT below this is a number, else it is this and a TOKEN.
    private static final int TOKEN_KNOT = 10000;
    private static final long MOST_VALUE = 1000000000000L;
    private static final long ERROR = Long.MIN_VALUE;

    private static final int[] GAME_WAYS = {4, 0, 1, 2, 3};

    private final byte[] tape;
    private int tapeLength;
    private final Reader reader;
    private Told told;
    private Told draft;
    private final Surf surf;
    private final Surf otherwise;
    private final Now now;
    private final Now trial;
    private final Now image;
    private boolean imageKept;
    private final Notes notes;
    private final Undos undos;
    private final Choices choices;

    public WhoseWave() {
        tape = new byte[MOST_BYTES];
        told = new Told();
        draft = new Told();
        reader = new Reader(draft);
        surf = new Surf(told);
        otherwise = new Surf(told);
        now = new Now();
        trial = new Now();
        image = new Now();
        notes = new Notes();
        undos = new Undos();
        choices = new Choices();
    }

    public int feed(int a, int b, int c, int d, int e) {
        if (tapeLength + 20 > MOST_BYTES) {
            return NONE;
        }
        putOnTape(a);
        putOnTape(b);
        putOnTape(c);
        putOnTape(d);
        putOnTape(e);
        return tapeLength;
    }

    public int text(int n) {
        if (n < 0 || n > tapeLength) {
            return NOT_SO;
        }
        tapeLength = 0;
        if (!reader.readAll(tape, n, draft)) {
            return NONE;
        }
        Told before = told;
        told = draft;
        draft = before;
        beginAnew();
        return told.lines;
    }

    public int fault(int what) {
        if (what == 0) {
            return reader.fault;
        }
        return what == 1 ? reader.faultPlace : NONE;
    }

    public int named(int letters) {
        for (int i = 0; i < told.crowd.size; i++) {
            if (told.crowd.name[i] == letters) {
                return i;
            }
        }
        return NONE;
    }

    public int look(int surfer, int what) throws IndexOutOfBoundsException, NoSuchElementException {
        if (!isSurfer(surfer)) {
            throw new IndexOutOfBoundsException();
        }
        switch (what) {
            case 0:
                return now.cell[surfer];
            case 1:
                return now.had[surfer];
            case 2:
                return now.crossed[surfer];
            case 3:
                return now.till[surfer];
            case 4:
                return told.crowd.pace[surfer] - now.strokes[surfer];
            case 5:
                return farNow(surfer);
            default:
                throw new NoSuchElementException();
        }
    }

    public int wave(int wave, int what) {
        if (!isWave(wave)) {
            return NO_WAVE;
        }
        switch (what) {
            case 0:
                return told.waves.minute[wave];
            case 1:
                return told.waves.size[wave];
            case 2:
                return told.waves.set[wave];
            case 3:
                return told.waves.which[wave];
            case 4:
                return now.who[wave];
            default:
                return NO_WAVE;
        }
    }

    public int peak(int minute) {
        if (minute < 0 || minute > LAST_MINUTE) {
            return NONE;
        }
        return told.peakY * told.wide + surf.peakXAt(minute);
    }

    public int odds(int surfer, int wave, int cell) {
        if (!isSurfer(surfer) || !isWave(wave) || !isCell(cell)) {
            return NONE;
        }
        return surf.oddsAt(surfer, wave, cell);
    }

    public long law(int what, int surfer, int wave) {
        if (what == 2) {
            return surf.driftValue(now.minute);
        }
        if (!isSurfer(surfer) || !isWave(wave)) {
            return ERROR;
        }
        if (what == 0) {
            return surf.catchValue(surfer, wave, now.cell[surfer]);
        }
        return what == 1 ? surf.awayValue(surfer, wave) : ERROR;
    }

    public int stroke(int surfer, int way) {
        if (!isSurfer(surfer) || way < 0 || way >= STAY) {
            return NONE;
        }
        int from = now.cell[surfer];
        int to = told.cellBeside(from, way);
        if (to == NONE || !now.isIn(surfer, now.minute)
                || now.strokes[surfer] >= told.crowd.pace[surfer]) {
            return NOT_SO;
        }
        now.cell[surfer] = to;
        now.strokes[surfer]++;
        undos.add(surfer, from);
        return to;
    }

    public boolean rule(int rule) {
        if (!isRule(rule) || rule == now.rule) {
            return false;
        }
        undos.add(Undos.THE_RULE, now.rule);
        now.rule = rule;
        return true;
    }

    public int minutes(int n) {
        if (n < 0 || n > 99 || now.minute + n > LAST_MINUTE) {
            return NONE;
        }
        for (int i = 0; i < n; i++) {
            passMinute();
        }
        return now.minute;
    }

    public int order(int wave, int k) {
        if (!isToCome(wave) || k < 0) {
            return NONE;
        }
        int many = surf.lineUp(now, wave, now.minute);
        return k < many ? surf.line[k] : NOT_SO;
    }

    public int deeper(int one, int other) {
        if (!isSurfer(one) || !isSurfer(other)) {
            return NONE;
        }
        int oneFar = farNow(one);
        int otherFar = farNow(other);
        if (oneFar == otherFar) {
            return 0;
        }
        return oneFar < otherFar ? 1 : 2;
    }

    public int seat(int surfer, int cell) {
        if (!isSurfer(surfer) || !isCell(cell)) {
            return NONE;
        }
        return surf.seatFrom(surfer, cell, firstToCome());
    }

    public int best(int surfer) {
        if (!isSurfer(surfer)) {
            return NONE;
        }
        int bestCell = 0;
        int most = NONE;
        for (int cell = 0; cell < told.cells(); cell++) {
            int sum = surf.seatFrom(surfer, cell, firstToCome());
            if (sum > most) {
                most = sum;
                bestCell = cell;
            }
        }
        return bestCell;
    }

    public int rests(int one, int other) {
        if (!isSurfer(one) || !isSurfer(other) || one == other) {
            return NONE;
        }
        choices.playGame(surf, now, one, other);
        return choices.restCount;
    }

    public int rest(int one, int other, int k) {
        if (!isSurfer(one) || !isSurfer(other) || one == other || k < 0) {
            return NONE;
        }
        choices.playGame(surf, now, one, other);
        return k < choices.restCount ? choices.restWays[k] : NOT_SO;
    }

    public int rank(int k, int what) {
        if (k < 1 || k > MOST_SIZES || what < 0 || what > 1) {
            return NONE;
        }
        int count = 0;
        for (int set = 0; set < told.waves.sets; set++) {
            if (told.waves.lengthOf(set) >= k && (what == 1 || told.waves.isLargest(set, k))) {
                count++;
            }
        }
        return count;
    }

    public int plan(int surfer) {
        if (!isSurfer(surfer)) {
            return NONE;
        }
        choices.makePlan(surf, now, surfer);
        return choices.planSum;
    }

    public int planned(int surfer, int k) {
        if (!isSurfer(surfer) || k < 0) {
            return NONE;
        }
        choices.makePlan(surf, now, surfer);
        return k < choices.planCount ? choices.planWaves[k] : NOT_SO;
    }

    public int go(int surfer, int wave, int cost) {
        if (!isSurfer(surfer) || !isToCome(wave) || cost < 0 || cost > 999) {
            return NONE;
        }
        int worth = surf.worthAt(surfer, wave, now.cell[surfer]);
        return worth > cost * surf.crossingOdds(now, surfer, wave) ? 1 : 0;
    }

    public int give(int one, int other, int n) {
        if (!isSurfer(one) || !isSurfer(other) || one == other || n < 0 || n > 99) {
            return NONE;
        }
        return told.crowd.bent[other] * n > 100 ? 1 : 0;
    }

    public int table(int rule, int seed, int what) {
        if (!isRule(rule) || seed < 0 || what < 0 || what > 7) {
            return NONE;
        }
        if (what < MOST_SURFERS && !isSurfer(what)) {
            return NONE;
        }
        runBy(rule, seed);
        switch (what) {
            case 5:
                return trial.crossedWaves;
            case 6:
                return trial.wastedWaves;
            case 7:
                return trial.unlike(told.crowd.size);
            default:
                return trial.had[what];
        }
    }

    public int fairest(int seed) {
        if (seed < 0) {
            return NONE;
        }
        int bestRule = NONE;
        int leastUnlike = 0;
        int leastLost = 0;
        for (int rule = 0; rule < RULES; rule++) {
            runBy(rule, seed);
            int unlike = trial.unlike(told.crowd.size);
            int lost = trial.crossedWaves + trial.wastedWaves;
            if (bestRule == NONE || unlike < leastUnlike || (unlike == leastUnlike && lost < leastLost)) {
                bestRule = rule;
                leastUnlike = unlike;
                leastLost = lost;
            }
        }
        return bestRule;
    }

    public int over(int surfer) {
        if (!isSurfer(surfer) || told.bankEach < 1 || told.waves.count < 1) {
            return NONE;
        }
        int last = told.waves.minute[told.waves.count - 1];
        int wave = firstToCome();
        int seat = surf.seatFrom(surfer, now.cell[surfer], wave);
        for (int minute = now.minute; minute <= last; minute++) {
            if (100 * told.bankSize * told.bankWaves(minute, last) > seat) {
                return minute;
            }
            if (wave < told.waves.count && told.waves.minute[wave] == minute) {
                seat -= surf.worthAt(surfer, wave, now.cell[surfer]);
                wave++;
            }
        }
        return NOT_SO;
    }

    public int next() {
        int set = told.waves.setFrom(now.minute);
        return set == NONE ? NOT_SO : told.waves.firstMinute(set) - now.minute;
    }

    public int gaps(int k, int what) {
        if (k < 0 || k > 99 || what < 0 || what > 1) {
            return NONE;
        }
        int count = 0;
        for (int set = 1; set < told.waves.sets; set++) {
            int gap = told.waves.firstMinute(set) - told.waves.lastMinute(set - 1);
            if (what == 1 || gap <= k) {
                count++;
            }
        }
        return count;
    }

    public int shares(int what) {
        if (what < 0 || what > 1 || told.crowd.size < 1) {
            return NONE;
        }
        return what == 0 ? now.unlike(told.crowd.size) : now.hadInSum(told.crowd.size);
    }

    public int note(int minute, int surfer, int cell) {
        if (minute < 0 || minute > LAST_MINUTE || !isSurfer(surfer) || !isCell(cell)) {
            return NONE;
        }
        return notes.addSeat(minute, surfer, cell);
    }

    public int strike(int note) {
        if (note < 0 || note >= notes.count) {
            return NONE;
        }
        return notes.addStrike(note);
    }

    public boolean known(int n) {
        if (n < NONE || n > notes.count) {
            return false;
        }
        notes.knownBy = n;
        return true;
    }

    public int locals(int d) {
        if (d < 0 || d > FARTHEST) {
            return NONE;
        }
        notes.findStruck();
        int someNear = 0;
        int someFar = 0;
        for (int i = 0; i < notes.howManyKnown(); i++) {
            int set = notes.isKnownSeat(i) ? told.waves.setFrom(notes.minute[i]) : NONE;
            if (set != NONE) {
                int bit = 1 << notes.surfer[i];
                if (surf.farOf(notes.cell[i], told.waves.first[set]) <= d) {
                    someNear |= bit;
                } else {
                    someFar |= bit;
                }
            }
        }
        return someNear & ~someFar;
    }

    public int chance(int seed, int surfer, int n) {
        if (seed < 0 || !isSurfer(surfer) || n < 0 || n > MOST_WAVES) {
            return NONE;
        }
        int often = 0;
        int number = seed;
        for (int i = 0; i < 10; i++) {
            runBy(now.rule, number);
            number = trial.number;
            if (trial.had[surfer] >= n) {
                often++;
            }
        }
        return often;
    }

    public int tried(int what, int i, int seed) {
        if (what < 0 || what > 4 || seed < 0) {
            return NONE;
        }
        boolean asksOne = what == 1 || what == 4;
        if (asksOne ? !isSurfer(i) : i != 0) {
            return NONE;
        }
        trial.takeForRun(now, now.rule, seed);
        otherwise.takeOver(surf);
        changeTrial(what, i);
        for (int wave = firstToCome(); wave < told.waves.count; wave++) {
            otherwise.bringWave(trial, wave);
        }
        return trial.hadInSum(told.crowd.size);
    }

    public int undo() {
        if (undos.count < 1) {
            return NONE;
        }
        undos.count--;
        int surfer = undos.surfer[undos.count];
        int before = undos.before[undos.count];
        if (surfer == Undos.THE_RULE) {
            now.rule = before;
        } else {
            now.cell[surfer] = before;
            now.strokes[surfer]--;
        }
        return undos.count;
    }

    public int keep() {
        image.takeAll(now);
        imageKept = true;
        return now.minute;
    }

    public int back() {
        if (!imageKept) {
            return NONE;
        }
        now.takeAll(image);
        undos.count = 0;
        return now.minute;
    }

    public int count(int what) {
        switch (what) {
            case 0:
                return told.wide;
            case 1:
                return told.high;
            case 2:
                return told.crowd.size;
            case 3:
                return told.waves.sets;
            case 4:
                return told.waves.count;
            case 5:
                return told.knots;
            case 6:
                return now.minute;
            case 7:
                return now.rule;
            case 8:
                return now.crossedWaves;
            case 9:
                return now.wastedWaves;
            case 10:
                return told.waves.count - firstToCome();
            case 11:
                return notes.count;
            case 12:
                return notes.howManyKnown();
            case 13:
                return undos.count;
            default:
                return NONE;
        }
    }

    private boolean isSurfer(int surfer) {
        return surfer >= 0 && surfer < told.crowd.size;
    }

    private boolean isWave(int wave) {
        return wave >= 0 && wave < told.waves.count;
    }

    private boolean isToCome(int wave) {
        return isWave(wave) && told.waves.minute[wave] >= now.minute;
    }

    private boolean isCell(int cell) {
        return cell >= 0 && cell < told.cells();
    }

    private boolean isRule(int rule) {
        return rule >= 0 && rule < RULES;
    }

    private int firstToCome() {
        return told.waves.firstFrom(now.minute);
    }

    private int farNow(int surfer) {
        return told.farFrom(now.cell[surfer], surf.peakXAt(now.minute));
    }

    private void putOnTape(int number) {
        for (int shift = 24; shift >= 0 && tapeLength < MOST_BYTES; shift -= 8) {
            tape[tapeLength] = (byte) (number >> shift);
            tapeLength++;
        }
    }

    private void beginAnew() {
        surf.takeAsTold(told);
        now.begin(told);
        notes.count = 0;
        notes.knownBy = NONE;
        undos.count = 0;
        imageKept = false;
    }

    private void passMinute() {
        int wave = told.waves.firstFrom(now.minute);
        if (wave < told.waves.count && told.waves.minute[wave] == now.minute) {
            surf.bringWave(now, wave);
        }
        now.beginMinute(told.crowd.size);
        undos.count = 0;
    }

    private void runBy(int rule, int seed) {
        trial.takeForRun(now, rule, seed);
        for (int wave = firstToCome(); wave < told.waves.count; wave++) {
            surf.bringWave(trial, wave);
        }
    }

    private void changeTrial(int what, int i) {
        switch (what) {
            case 0:
                otherwise.makeNobodyBold();
                break;
            case 1:
                trial.leaveOut(i);
                break;
            case 2:
                otherwise.holdPeak();
                break;
            case 3:
                otherwise.giveBoards(9);
                break;
            default:
                trial.seatAll(trial.cell[i]);
                break;
        }
    }

    /** Cuts the bytes of a TEXT into TOKENS. */
    private static final class Tokens {
        final int[] language;
        byte[] bytes;
        int length;
        int at;
        int token;
        int place;
        int value;

        Tokens() {
            language = new int[WORDS];
            bytes = new byte[0];
            for (int i = 0; i < WORDS; i++) {
                for (int k = 0; k < LETTERS; k++) {
                    char letter = LANGUAGE.charAt(i * LETTERS + k);
                    language[i] |= isLetter(letter) ? letterBits(letter, k) : 0;
                }
            }
        }

        void begin(byte[] from, int howMany) {
            bytes = from;
            length = Math.min(howMany, from.length);
            at = 0;
        }

        void advance() {
            skipBlanks();
            place = at;
            value = 0;
            if (at >= length) {
                token = END;
            } else if (isLetter(bytes[at])) {
                takeWord();
            } else if (isDigit(bytes[at])) {
                takeNumber();
            } else {
                takeSign();
            }
        }

        private void skipBlanks() {
            for (; at < length; at++) {
                if (bytes[at] != 10 && bytes[at] != 32) {
                    return;
                }
            }
        }

        private void takeWord() {
            int letters = 0;
            for (; at < length && isLetter(bytes[at]); at++) {
                if (letters < LETTERS) {
                    value |= letterBits(bytes[at], letters);
                }
                letters++;
            }
            token = letters > LETTERS ? NO_TOKEN : wordOf(value);
        }

        private int wordOf(int letters) {
            for (int i = 0; i < WORDS; i++) {
                if (language[i] == letters) {
                    return i;
                }
            }
            return OWN_WORD;
        }

        private void takeNumber() {
            for (; at < length && isDigit(bytes[at]); at++) {
                value = Math.min(value * 10 + bytes[at] - '0', BEYOND_ALL);
            }
            token = NUMBER;
        }

        private void takeSign() {
            int sign = bytes[at];
            at++;
            token = signOf(sign);
            if (token == LESS && isNext('=')) {
                token = LESS_OR_LIKE;
                at++;
            } else if (token == LESS && isNext('>')) {
                token = NOT_LIKE;
                at++;
            } else if (token == MORE && isNext('=')) {
                token = MORE_OR_LIKE;
                at++;
            }
        }

        private boolean isNext(int sign) {
            return at < length && bytes[at] == sign;
        }

        private static int signOf(int sign) {
            switch (sign) {
                case ';':
                    return STOP;
                case '(':
                    return OPEN;
                case ')':
                    return CLOSE;
                case '<':
                    return LESS;
                case '=':
                    return LIKE;
                case '>':
                    return MORE;
                case '+':
                    return PLUS;
                case '-':
                    return MINUS;
                case '*':
                    return TIMES;
                case '/':
                    return BY;
                default:
                    return NO_TOKEN;
            }
        }

        private static boolean isLetter(int sign) {
            return sign >= 'a' && sign <= 'z';
        }

        private static boolean isDigit(int sign) {
            return sign >= '0' && sign <= '9';
        }

        private static int letterBits(int letter, int k) {
            return (letter - 'a' + 1) << (25 - 5 * k);
        }
    }

    /** Reads a TEXT line by line, up to its first FAULT. */
    private static final class Reader {
        final Tokens tokens;
        final int[] waiting;
        int waitingCount;
        int open;
        boolean wantsPart;
        boolean notFits;
        int wordsTold;
        boolean cellsTold;
        int fault;
        int faultPlace;
        Told draft;

        Reader(Told first) {
            draft = first;
            tokens = new Tokens();
            waiting = new int[MOST_KNOTS + MOST_OPEN];
            faultPlace = NONE;
        }

        boolean readAll(byte[] bytes, int length, Told into) {
            draft = into;
            draft.forget();
            fault = 0;
            faultPlace = NONE;
            wordsTold = 0;
            cellsTold = false;
            tokens.begin(bytes, length);
            for (int i = 0; i <= MOST_BYTES; i++) {
                tokens.advance();
                if (tokens.token == END) {
                    return true;
                }
                if (!readLine()) {
                    return false;
                }
                draft.lines++;
            }
            return true;
        }

        private boolean refuse(int kind) {
            fault = kind;
            faultPlace = tokens.place;
            return false;
        }

        private boolean readLine() {
            switch (tokens.token) {
                case WORD_SEA:
                    return readSea();
                case WORD_PEAK:
                    return readPeak();
                case WORD_SURFER:
                    return readSurfer();
                case WORD_SET:
                    return readSet();
                case WORD_BANK:
                    return readBank();
                case WORD_RULE:
                    return readRule();
                case WORD_SEED:
                    return readSeed();
                case WORD_LAW:
                    return readLaw();
                default:
                    return refuse(FAULT_TOKEN);
            }
        }

        private boolean isFirst(int word) {
            int bit = 1 << word;
            if ((wordsTold & bit) != 0) {
                return refuse(FAULT_TOLD);
            }
            wordsTold |= bit;
            return true;
        }

        private int numberIn(int least, int most) {
            tokens.advance();
            return takenNumber(least, most);
        }

        private int takenNumber(int least, int most) {
            if (tokens.token != NUMBER) {
                refuse(FAULT_TOKEN);
                return NONE;
            }
            if (tokens.value < least || tokens.value > most) {
                refuse(FAULT_TOO_MUCH);
                return NONE;
            }
            return tokens.value;
        }

        private boolean readStop() {
            tokens.advance();
            return tokens.token == STOP || refuse(FAULT_TOKEN);
        }

        private boolean readSea() {
            if (!isFirst(WORD_SEA)) {
                return false;
            }
            if (cellsTold) {
                return refuse(FAULT_SEA_LATE);
            }
            int wide = numberIn(1, 8);
            int high = wide == NONE ? NONE : numberIn(1, 6);
            if (high == NONE) {
                return false;
            }
            draft.wide = wide;
            draft.high = high;
            return readStop();
        }

        private boolean readPeak() {
            if (!isFirst(WORD_PEAK)) {
                return false;
            }
            cellsTold = true;
            int x = numberIn(0, draft.wide - 1);
            int y = x == NONE ? NONE : numberIn(0, draft.high - 1);
            if (y == NONE) {
                return false;
            }
            draft.peakX = x;
            draft.peakY = y;
            return readStop();
        }

        private boolean readSurfer() {
            if (draft.crowd.size >= MOST_SURFERS) {
                return refuse(FAULT_TOO_MUCH);
            }
            cellsTold = true;
            tokens.advance();
            if (tokens.token != OWN_WORD) {
                return refuse(FAULT_TOKEN);
            }
            if (draft.crowd.hasName(tokens.value)) {
                return refuse(FAULT_TOLD);
            }
            int name = tokens.value;
            int x = numberIn(0, draft.wide - 1);
            int y = x == NONE ? NONE : numberIn(0, draft.high - 1);
            int board = y == NONE ? NONE : numberIn(1, 9);
            int pace = board == NONE ? NONE : numberIn(1, 3);
            int bold = pace == NONE ? NONE : numberIn(0, 100);
            int bent = bold == NONE ? NONE : numberIn(0, 100);
            if (bent == NONE) {
                return false;
            }
            draft.crowd.add(name, y * draft.wide + x, board, pace, bold, bent);
            return readStop();
        }

        private boolean readSet() {
            Waves waves = draft.waves;
            if (waves.sets >= MOST_SETS) {
                return refuse(FAULT_TOO_MUCH);
            }
            int minute = numberIn(0, 99);
            if (minute == NONE) {
                return false;
            }
            if (waves.sets > 0 && minute <= waves.lastMinute(waves.sets - 1)) {
                return refuse(FAULT_SET_EARLY);
            }
            waves.beginSet();
            for (int k = 0; k <= MOST_SIZES; k++) {
                tokens.advance();
                if (k > 0 && tokens.token == STOP) {
                    return true;
                }
                int size = takenNumber(1, 9);
                if (size == NONE) {
                    return false;
                }
                if (k == MOST_SIZES) {
                    return refuse(FAULT_TOO_MUCH);
                }
                waves.add(minute + k, size);
            }
            return false;
        }

        private boolean readBank() {
            if (!isFirst(WORD_BANK)) {
                return false;
            }
            int away = numberIn(1, 20);
            int each = away == NONE ? NONE : numberIn(1, 20);
            int size = each == NONE ? NONE : numberIn(1, 9);
            if (size == NONE) {
                return false;
            }
            draft.bankAway = away;
            draft.bankEach = each;
            draft.bankSize = size;
            return readStop();
        }

        private boolean readRule() {
            if (!isFirst(WORD_RULE)) {
                return false;
            }
            tokens.advance();
            int rule = tokens.token - FIRST_RULE;
            if (rule < 0 || rule >= RULES) {
                return refuse(FAULT_TOKEN);
            }
            draft.rule = rule;
            return readStop();
        }

        private boolean readSeed() {
            if (!isFirst(WORD_SEED)) {
                return false;
            }
            int seed = numberIn(0, 99999);
            if (seed == NONE) {
                return false;
            }
            draft.seed = seed;
            return readStop();
        }

        private Law readKind() {
            tokens.advance();
            int kind = tokens.token - FIRST_KIND;
            if (kind < 0 || kind >= KINDS) {
                refuse(FAULT_TOKEN);
                return null;
            }
            if (draft.laws[kind].told) {
                refuse(FAULT_TOLD);
                return null;
            }
            draft.laws[kind].told = true;
            return draft.laws[kind];
        }

        // Signs wait until what binds less tightly comes, so that no depth of calls is needed.
        private boolean readLaw() {
            Law law = readKind();
            if (law == null) {
                return false;
            }
            waitingCount = 0;
            open = 0;
            wantsPart = true;
            notFits = true;
            for (int i = 0; i <= MOST_BYTES; i++) {
                tokens.advance();
                if (!wantsPart && open == 0 && tokens.token == STOP) {
                    release(law, 1);
                    return true;
                }
                if (!(wantsPart ? takePart(law) : takeJoint(law))) {
                    return false;
                }
            }
            return false;
        }

        private boolean takePart(Law law) {
            int token = tokens.token;
            if (token == OPEN) {
                return takeOpen();
            }
            if (token == WORD_NOT && notFits) {
                return countKnot() && letWait(token);
            }
            boolean isName = token >= FIRST_NAME && token < FIRST_NAME + NAMES;
            if (token != NUMBER && !isName) {
                return refuse(FAULT_TOKEN);
            }
            if (tokens.value > MOST_OF_FORMULA && !isName) {
                return refuse(FAULT_TOO_MUCH);
            }
            if (!countKnot()) {
                return false;
            }
            law.add(isName ? TOKEN_KNOT + token : tokens.value);
            wantsPart = false;
            return true;
        }

        private boolean takeOpen() {
            if (open >= MOST_OPEN) {
                return refuse(FAULT_TOO_MUCH);
            }
            open++;
            notFits = true;
            return letWait(OPEN);
        }

        private boolean takeJoint(Law law) {
            int token = tokens.token;
            if (token == CLOSE) {
                return takeClose(law);
            }
            int strength = strengthOf(token);
            if (strength == 0 || token == WORD_NOT) {
                return refuse(FAULT_TOKEN);
            }
            boolean compares = strength == strengthOf(LIKE);
            release(law, compares ? strength + 1 : strength);
            if (compares && waitsForLike()) {
                return refuse(FAULT_TOKEN);
            }
            wantsPart = true;
            notFits = token == WORD_AND || token == WORD_OR;
            return countKnot() && letWait(token);
        }

        private boolean takeClose(Law law) {
            if (open == 0) {
                return refuse(FAULT_TOKEN);
            }
            release(law, 1);
            open--;
            if (waitingCount > 0) {
                waitingCount--;
            }
            return true;
        }

        private boolean waitsForLike() {
            return waitingCount > 0 && strengthOf(waiting[waitingCount - 1]) == strengthOf(LIKE);
        }

        private void release(Law law, int strength) {
            for (; waitingCount > 0; waitingCount--) {
                int sign = waiting[waitingCount - 1];
                if (strengthOf(sign) < strength) {
                    return;
                }
                law.add(TOKEN_KNOT + sign);
            }
        }

        private boolean letWait(int sign) {
            if (waitingCount >= waiting.length) {
                return refuse(FAULT_TOO_MUCH);
            }
            waiting[waitingCount] = sign;
            waitingCount++;
            return true;
        }

        private boolean countKnot() {
            if (draft.knots >= MOST_KNOTS) {
                return refuse(FAULT_TOO_MUCH);
            }
            draft.knots++;
            return true;
        }

        private static int strengthOf(int token) {
            switch (token) {
                case WORD_OR:
                    return 1;
                case WORD_AND:
                    return 2;
                case WORD_NOT:
                    return 3;
                case LESS:
                case LESS_OR_LIKE:
                case LIKE:
                case NOT_LIKE:
                case MORE_OR_LIKE:
                case MORE:
                    return 4;
                case PLUS:
                case MINUS:
                    return 5;
                case TIMES:
                case BY:
                    return 6;
                default:
                    return 0;
            }
        }
    }

    /** A law's E: each sign behind the parts that it joins. */
    private static final class Law {
        final int[] knots;
        int length;
        boolean told;

        Law() {
            knots = new int[MOST_KNOTS];
        }

        void forget() {
            length = 0;
            told = false;
        }

        void add(int knot) {
            if (length < knots.length) {
                knots[length] = knot;
                length++;
            }
        }

        long valueFor(long[] names, long[] parts) {
            int height = 0;
            for (int i = 0; i < length && height < parts.length; i++) {
                int token = knots[i] - TOKEN_KNOT;
                if (token < 0) {
                    parts[height] = knots[i];
                    height++;
                } else if (token >= FIRST_NAME && token < FIRST_NAME + NAMES) {
                    parts[height] = names[token - FIRST_NAME];
                    height++;
                } else if (token == WORD_NOT && height > 0) {
                    parts[height - 1] = parts[height - 1] == 0 ? 1 : 0;
                } else if (height > 1) {
                    height--;
                    long value = join(token, parts[height - 1], parts[height]);
                    if (value > MOST_VALUE || value < -MOST_VALUE) {
                        return ERROR;
                    }
                    parts[height - 1] = value;
                }
            }
            return height == 1 ? parts[0] : ERROR;
        }

        private static long join(int token, long left, long right) {
            switch (token) {
                case WORD_OR:
                    return oneIf(left != 0 || right != 0);
                case WORD_AND:
                    return oneIf(left != 0 && right != 0);
                case LESS:
                    return oneIf(left < right);
                case LESS_OR_LIKE:
                    return oneIf(left <= right);
                case LIKE:
                    return oneIf(left == right);
                case NOT_LIKE:
                    return oneIf(left != right);
                case MORE_OR_LIKE:
                    return oneIf(left >= right);
                case MORE:
                    return oneIf(left > right);
                case PLUS:
                    return left + right;
                case MINUS:
                    return left - right;
                case TIMES:
                    return product(left, right);
                case BY:
                    return right == 0 ? ERROR : left / right;
                default:
                    return ERROR;
            }
        }

        private static long oneIf(boolean holds) {
            return holds ? 1 : 0;
        }

        // Looked at before it is worked out: a product of two values may not fit a long.
        private static long product(long left, long right) {
            long leftSize = left < 0 ? -left : left;
            long rightSize = right < 0 ? -right : right;
            if (rightSize > 0 && leftSize > MOST_VALUE / rightSize) {
                return ERROR;
            }
            return left * right;
        }
    }

    /** The SURFERS as they are told. */
    private static final class Crowd {
        int size;
        final int[] name;
        final int[] cell;
        final int[] board;
        final int[] pace;
        final int[] bold;
        final int[] bent;

        Crowd() {
            name = new int[MOST_SURFERS];
            cell = new int[MOST_SURFERS];
            board = new int[MOST_SURFERS];
            pace = new int[MOST_SURFERS];
            bold = new int[MOST_SURFERS];
            bent = new int[MOST_SURFERS];
        }

        boolean hasName(int letters) {
            for (int i = 0; i < size; i++) {
                if (name[i] == letters) {
                    return true;
                }
            }
            return false;
        }

        void add(int letters, int seat, int onBoard, int atPace, int howBold, int howBent) {
            if (size >= MOST_SURFERS) {
                return;
            }
            name[size] = letters;
            cell[size] = seat;
            board[size] = onBoard;
            pace[size] = atPace;
            bold[size] = howBold;
            bent[size] = howBent;
            size++;
        }
    }

    /** The WAVES of all SETS as they are told. */
    private static final class Waves {
        int sets;
        int count;
        final int[] first;
        final int[] length;
        final int[] minute;
        final int[] size;
        final int[] set;
        final int[] which;

        Waves() {
            first = new int[MOST_SETS];
            length = new int[MOST_SETS];
            minute = new int[MOST_WAVES];
            size = new int[MOST_WAVES];
            set = new int[MOST_WAVES];
            which = new int[MOST_WAVES];
        }

        void forget() {
            sets = 0;
            count = 0;
        }

        void beginSet() {
            if (sets < MOST_SETS) {
                first[sets] = count;
                length[sets] = 0;
                sets++;
            }
        }

        void add(int atMinute, int howLarge) {
            if (count >= MOST_WAVES || sets < 1) {
                return;
            }
            length[sets - 1]++;
            minute[count] = atMinute;
            size[count] = howLarge;
            set[count] = sets - 1;
            which[count] = length[sets - 1];
            count++;
        }

        int lengthOf(int ofSet) {
            return length[ofSet];
        }

        int firstMinute(int ofSet) {
            return minute[first[ofSet]];
        }

        int lastMinute(int ofSet) {
            return firstMinute(ofSet) + length[ofSet] - 1;
        }

        int firstFrom(int fromMinute) {
            for (int i = 0; i < count; i++) {
                if (minute[i] >= fromMinute) {
                    return i;
                }
            }
            return count;
        }

        int setFrom(int fromMinute) {
            for (int i = 0; i < sets; i++) {
                if (firstMinute(i) >= fromMinute) {
                    return i;
                }
            }
            return NONE;
        }

        boolean isLargest(int ofSet, int k) {
            int asked = first[ofSet] + k - 1;
            for (int i = 0; i < length[ofSet]; i++) {
                if (size[first[ofSet] + i] > size[asked]) {
                    return false;
                }
            }
            return true;
        }
    }

    /** All that a TEXT tells. */
    private static final class Told {
        int wide;
        int high;
        int peakX;
        int peakY;
        final Crowd crowd;
        final Waves waves;
        int bankAway;
        int bankEach;
        int bankSize;
        int rule;
        int seed;
        final Law[] laws;
        int lines;
        int knots;

        Told() {
            crowd = new Crowd();
            waves = new Waves();
            laws = new Law[KINDS];
            for (int i = 0; i < KINDS; i++) {
                laws[i] = new Law();
            }
            wide = 6;
            high = 4;
        }

        void forget() {
            wide = 6;
            high = 4;
            peakX = 0;
            peakY = 0;
            crowd.size = 0;
            waves.forget();
            bankAway = 0;
            bankEach = 0;
            bankSize = 0;
            rule = DEEP;
            seed = 0;
            for (int i = 0; i < KINDS; i++) {
                laws[i].forget();
            }
            lines = 0;
            knots = 0;
        }

        int cells() {
            return wide * high;
        }

        int columnOf(int cell) {
            return wide > 0 ? cell % wide : 0;
        }

        int rowOf(int cell) {
            return wide > 0 ? cell / wide : 0;
        }

        int farFrom(int cell, int x) {
            if (wide < 1) {
                return 0;
            }
            return Math.abs(cell % wide - x) + Math.abs(cell / wide - peakY);
        }

        int cellBeside(int cell, int way) {
            int x = columnOf(cell);
            int y = rowOf(cell);
            switch (way) {
                case 0:
                    return y > 0 ? cell - wide : NONE;
                case 1:
                    return x < wide - 1 ? cell + 1 : NONE;
                case 2:
                    return y < high - 1 ? cell + wide : NONE;
                case 3:
                    return x > 0 ? cell - 1 : NONE;
                default:
                    return cell;
            }
        }

        int bankWaves(int fromMinute, int last) {
            int rest = last - fromMinute - bankAway;
            return rest < 0 || bankEach < 1 ? 0 : rest / bankEach + 1;
        }
    }

    /** How all are in a MINUTE: what goes by, is tried and is kept as an IMAGE. */
    private static final class Now {
        int minute;
        int rule;
        int number;
        int crossedWaves;
        int wastedWaves;
        final int[] cell;
        final int[] had;
        final int[] crossed;
        final int[] till;
        final int[] strokes;
        final int[] who;

        Now() {
            cell = new int[MOST_SURFERS];
            had = new int[MOST_SURFERS];
            crossed = new int[MOST_SURFERS];
            till = new int[MOST_SURFERS];
            strokes = new int[MOST_SURFERS];
            who = new int[MOST_WAVES];
        }

        void begin(Told told) {
            minute = 0;
            rule = told.rule;
            number = told.seed;
            crossedWaves = 0;
            wastedWaves = 0;
            for (int i = 0; i < MOST_SURFERS; i++) {
                cell[i] = told.crowd.cell[i];
                had[i] = 0;
                crossed[i] = 0;
                till[i] = 0;
                strokes[i] = 0;
            }
            for (int i = 0; i < MOST_WAVES; i++) {
                who[i] = NOT_SO;
            }
        }

        void takeAll(Now other) {
            minute = other.minute;
            rule = other.rule;
            number = other.number;
            crossedWaves = other.crossedWaves;
            wastedWaves = other.wastedWaves;
            System.arraycopy(other.cell, 0, cell, 0, MOST_SURFERS);
            System.arraycopy(other.had, 0, had, 0, MOST_SURFERS);
            System.arraycopy(other.crossed, 0, crossed, 0, MOST_SURFERS);
            System.arraycopy(other.till, 0, till, 0, MOST_SURFERS);
            System.arraycopy(other.strokes, 0, strokes, 0, MOST_SURFERS);
            System.arraycopy(other.who, 0, who, 0, MOST_WAVES);
        }

        void takeForRun(Now other, int byRule, int seed) {
            takeAll(other);
            rule = byRule;
            number = seed;
            crossedWaves = 0;
            wastedWaves = 0;
        }

        /** What it had till now stays: only the WAVES to come are tried without it. */
        void leaveOut(int surfer) {
            till[surfer] = Integer.MAX_VALUE;
        }

        void seatAll(int onCell) {
            for (int i = 0; i < MOST_SURFERS; i++) {
                cell[i] = onCell;
            }
        }

        boolean isIn(int surfer, int atMinute) {
            return till[surfer] <= atMinute;
        }

        void beginMinute(int surfers) {
            minute++;
            for (int i = 0; i < surfers; i++) {
                if (isIn(i, minute)) {
                    till[i] = 0;
                }
                strokes[i] = 0;
            }
        }

        int drawHundredth() {
            number = (int) ((number * 1103515245L + 12345L) & 0x7fffffffL);
            return (number >> 16) % 100;
        }

        int hadInSum(int surfers) {
            int sum = 0;
            for (int i = 0; i < surfers; i++) {
                sum += had[i];
            }
            return sum;
        }

        int unlike(int surfers) {
            if (surfers < 1) {
                return 0;
            }
            int most = had[0];
            int fewest = had[0];
            for (int i = 1; i < surfers; i++) {
                most = Math.max(most, had[i]);
                fewest = Math.min(fewest, had[i]);
            }
            return most - fewest;
        }
    }

    /** What the laws and the rule make of WAVES, as told or with something TRIED. */
    private static final class Surf {
        Told told;
        final int[] board;
        final int[] bold;
        final int[] peakX;
        final long[] names;
        final long[] parts;
        final int[] line;
        final int[] oddsOf;
        final int[] keyOf;

        Surf(Told first) {
            told = first;
            board = new int[MOST_SURFERS];
            bold = new int[MOST_SURFERS];
            peakX = new int[MOST_WAVES];
            names = new long[NAMES];
            parts = new long[MOST_KNOTS];
            line = new int[MOST_SURFERS];
            oddsOf = new int[MOST_SURFERS];
            keyOf = new int[MOST_SURFERS];
        }

        void takeAsTold(Told text) {
            told = text;
            System.arraycopy(told.crowd.board, 0, board, 0, MOST_SURFERS);
            System.arraycopy(told.crowd.bold, 0, bold, 0, MOST_SURFERS);
            for (int i = 0; i < told.waves.count; i++) {
                peakX[i] = peakXAt(told.waves.minute[i]);
            }
        }

        void takeOver(Surf other) {
            told = other.told;
            System.arraycopy(other.board, 0, board, 0, MOST_SURFERS);
            System.arraycopy(other.bold, 0, bold, 0, MOST_SURFERS);
            System.arraycopy(other.peakX, 0, peakX, 0, MOST_WAVES);
        }

        void makeNobodyBold() {
            for (int i = 0; i < MOST_SURFERS; i++) {
                bold[i] = 0;
            }
        }

        void holdPeak() {
            for (int i = 0; i < MOST_WAVES; i++) {
                peakX[i] = told.peakX;
            }
        }

        void giveBoards(int size) {
            for (int i = 0; i < MOST_SURFERS; i++) {
                board[i] = size;
            }
        }

        long driftValue(int minute) {
            for (int i = 0; i < NAMES; i++) {
                names[i] = 0;
            }
            names[MINUTE] = minute;
            return told.laws[DRIFT].valueFor(names, parts);
        }

        int peakXAt(int minute) {
            long drift = driftValue(minute);
            long x = told.peakX + (drift == ERROR ? 0 : Math.max(-8, Math.min(8, drift)));
            return (int) Math.max(0, Math.min(told.wide - 1, x));
        }

        int farOf(int cell, int wave) {
            return told.farFrom(cell, peakX[wave]);
        }

        private void nameAway(int surfer, int wave) {
            names[FAR] = 0;
            names[SIDE] = 0;
            names[BOARD] = board[surfer];
            names[SIZE] = told.waves.size[wave];
            names[MINUTE] = told.waves.minute[wave];
            names[WHICH] = told.waves.which[wave];
        }

        private void nameCatch(int surfer, int wave, int cell) {
            nameAway(surfer, wave);
            names[FAR] = told.farFrom(cell, peakX[wave]);
            names[SIDE] = told.rowOf(cell) - told.peakY;
        }

        long catchValue(int surfer, int wave, int cell) {
            nameCatch(surfer, wave, cell);
            return told.laws[CATCH].valueFor(names, parts);
        }

        long awayValue(int surfer, int wave) {
            nameAway(surfer, wave);
            return told.laws[AWAY].valueFor(names, parts);
        }

        int oddsAt(int surfer, int wave, int cell) {
            nameCatch(surfer, wave, cell);
            long value = told.laws[CATCH].valueFor(names, parts);
            if (value == ERROR) {
                return Math.max(0, 100 - 20 * farOf(cell, wave));
            }
            return (int) Math.max(0, Math.min(100, value));
        }

        int awayFor(int surfer, int wave) {
            nameAway(surfer, wave);
            long value = told.laws[AWAY].valueFor(names, parts);
            return value == ERROR ? 5 : (int) Math.max(1, Math.min(30, value));
        }

        int worthAt(int surfer, int wave, int cell) {
            return oddsAt(surfer, wave, cell) * told.waves.size[wave];
        }

        int seatFrom(int surfer, int cell, int firstWave) {
            int sum = 0;
            for (int i = firstWave; i < told.waves.count; i++) {
                sum += worthAt(surfer, i, cell);
            }
            return sum;
        }

        // Who has the lesser key is ahead in the ORDER.
        private int keyFor(Now now, int surfer, int wave) {
            int far = farOf(now.cell[surfer], wave);
            switch (now.rule) {
                case TURNS:
                    return now.had[surfer];
                case EACH:
                    return hadOfSet(now, surfer, told.waves.set[wave]) ? 100 + far : far;
                case OUT:
                    return -told.rowOf(now.cell[surfer]);
                default:
                    return far;
            }
        }

        private boolean hadOfSet(Now now, int surfer, int set) {
            for (int i = 0; i < told.waves.count; i++) {
                if (told.waves.set[i] == set && now.who[i] == surfer) {
                    return true;
                }
            }
            return false;
        }

        int lineUp(Now now, int wave, int minute) {
            int many = 0;
            for (int i = 0; i < told.crowd.size; i++) {
                if (now.isIn(i, minute)) {
                    oddsOf[i] = oddsAt(i, wave, now.cell[i]);
                    if (oddsOf[i] > 0) {
                        keyOf[i] = keyFor(now, i, wave);
                        putInLine(i, many);
                        many++;
                    }
                }
            }
            return many;
        }

        private void putInLine(int surfer, int many) {
            int at = many;
            for (; at > 0 && keyOf[line[at - 1]] > keyOf[surfer]; at--) {
                line[at] = line[at - 1];
            }
            line[at] = surfer;
        }

        void bringWave(Now now, int wave) {
            int many = lineUp(now, wave, told.waves.minute[wave]);
            int place = placeOfRider(now, many);
            if (place == NONE) {
                now.who[wave] = NONE;
                now.wastedWaves++;
                return;
            }
            int rider = line[place];
            int crosser = crosserBehind(now, place, many);
            if (crosser == NONE) {
                now.who[wave] = rider;
                now.had[rider]++;
                sendAway(now, rider, wave, 1);
                return;
            }
            now.who[wave] = CROSSED_BY_ONE;
            now.crossedWaves++;
            now.crossed[rider]++;
            now.crossed[crosser]++;
            sendAway(now, rider, wave, 2);
            sendAway(now, crosser, wave, 2);
        }

        private int placeOfRider(Now now, int many) {
            for (int k = 0; k < many; k++) {
                if (now.drawHundredth() < oddsOf[line[k]]) {
                    return k;
                }
            }
            return NONE;
        }

        private int crosserBehind(Now now, int place, int many) {
            for (int k = place + 1; k < many; k++) {
                int howBold = bold[line[k]];
                if (howBold > 0 && now.drawHundredth() < howBold) {
                    return line[k];
                }
            }
            return NONE;
        }

        private void sendAway(Now now, int surfer, int wave, int times) {
            now.till[surfer] = told.waves.minute[wave] + times * awayFor(surfer, wave);
        }

        // In hundredths; a SURFER who is AWAY is taken at the place that the rule would give it.
        int crossingOdds(Now now, int surfer, int wave) {
            int many = lineUp(now, wave, now.minute);
            int key = keyFor(now, surfer, wave);
            int uncrossed = 100;
            for (int k = 0; k < many; k++) {
                int other = line[k];
                if (keyOf[other] > key || (keyOf[other] == key && other > surfer)) {
                    uncrossed = uncrossed * (100 - bold[other]) / 100;
                }
            }
            return 100 - uncrossed;
        }
    }

    /** The GAME of two and the PLAN of one. */
    private static final class Choices {
        final int[] wayCell;
        final int[] far;
        final int[] worth;
        final int[] gain;
        final int[] otherGain;
        final int[] restWays;
        int restCount;
        final int[] bestFrom;
        final int[] thenWave;
        final boolean[] goesFor;
        final int[] planWaves;
        int planCount;
        int planSum;

        Choices() {
            wayCell = new int[2 * WAYS];
            far = new int[2 * WAYS * MOST_WAVES];
            worth = new int[2 * WAYS * MOST_WAVES];
            gain = new int[WAYS * WAYS];
            otherGain = new int[WAYS * WAYS];
            restWays = new int[WAYS * WAYS];
            bestFrom = new int[MOST_WAVES + 1];
            thenWave = new int[MOST_WAVES];
            goesFor = new boolean[MOST_WAVES];
            planWaves = new int[MOST_WAVES];
        }

        void playGame(Surf surf, Now now, int one, int other) {
            int from = surf.told.waves.firstFrom(now.minute);
            weighWays(surf, now, one, 0, from);
            weighWays(surf, now, other, WAYS, from);
            for (int i = 0; i < WAYS; i++) {
                for (int k = 0; k < WAYS; k++) {
                    sharePair(i, k, from, surf.told.waves.count, one < other);
                }
            }
            findRests();
        }

        private void weighWays(Surf surf, Now now, int surfer, int row, int from) {
            for (int i = 0; i < WAYS; i++) {
                int cell = surf.told.cellBeside(now.cell[surfer], GAME_WAYS[i]);
                wayCell[row + i] = cell;
                for (int w = from; cell != NONE && w < surf.told.waves.count; w++) {
                    int at = (row + i) * MOST_WAVES + w;
                    far[at] = surf.farOf(cell, w);
                    worth[at] = surf.worthAt(surfer, w, cell);
                }
            }
        }

        private void sharePair(int i, int k, int from, int to, boolean oneIsFirst) {
            int sum = 0;
            int otherSum = 0;
            for (int w = from; w < to; w++) {
                int at = i * MOST_WAVES + w;
                int otherAt = (WAYS + k) * MOST_WAVES + w;
                if (far[at] < far[otherAt] || (far[at] == far[otherAt] && oneIsFirst)) {
                    sum += worth[at];
                } else {
                    otherSum += worth[otherAt];
                }
            }
            gain[i * WAYS + k] = sum;
            otherGain[i * WAYS + k] = otherSum;
        }

        private void findRests() {
            restCount = 0;
            for (int i = 0; i < WAYS; i++) {
                for (int k = 0; k < WAYS; k++) {
                    if (isRest(i, k)) {
                        restWays[restCount] = 10 * GAME_WAYS[i] + GAME_WAYS[k];
                        restCount++;
                    }
                }
            }
        }

        private boolean isRest(int i, int k) {
            if (wayCell[i] == NONE || wayCell[WAYS + k] == NONE) {
                return false;
            }
            for (int j = 0; j < WAYS; j++) {
                if (wayCell[j] != NONE && gain[j * WAYS + k] > gain[i * WAYS + k]) {
                    return false;
                }
                if (wayCell[WAYS + j] != NONE && otherGain[i * WAYS + j] > otherGain[i * WAYS + k]) {
                    return false;
                }
            }
            return true;
        }

        void makePlan(Surf surf, Now now, int surfer) {
            Waves waves = surf.told.waves;
            int from = waves.firstFrom(now.minute);
            bestFrom[waves.count] = 0;
            for (int w = waves.count - 1; w >= from; w--) {
                thenWave[w] = waves.firstFrom(waves.minute[w] + surf.awayFor(surfer, w));
                int going = surf.worthAt(surfer, w, now.cell[surfer]) + bestFrom[thenWave[w]];
                goesFor[w] = going >= bestFrom[w + 1];
                bestFrom[w] = Math.max(going, bestFrom[w + 1]);
            }
            planSum = bestFrom[from];
            listPlan(from, waves.count);
        }

        private void listPlan(int from, int to) {
            planCount = 0;
            int free = from;
            for (int w = from; w < to; w++) {
                if (w >= free && goesFor[w]) {
                    planWaves[planCount] = w;
                    planCount++;
                    free = thenWave[w];
                }
            }
        }
    }

    /** NOTES and STRIKES, one behind another. */
    private static final class Notes {
        int count;
        int knownBy;
        final int[] minute;
        final int[] surfer;
        final int[] cell;
        final int[] struckNote;
        final boolean[] struck;

        Notes() {
            knownBy = NONE;
            minute = new int[MOST_NOTES];
            surfer = new int[MOST_NOTES];
            cell = new int[MOST_NOTES];
            struckNote = new int[MOST_NOTES];
            struck = new boolean[MOST_NOTES];
        }

        int addSeat(int atMinute, int who, int onCell) {
            if (count >= MOST_NOTES) {
                return NONE;
            }
            minute[count] = atMinute;
            surfer[count] = who;
            cell[count] = onCell;
            struckNote[count] = NONE;
            count++;
            return count - 1;
        }

        int addStrike(int note) {
            if (count >= MOST_NOTES) {
                return NONE;
            }
            surfer[count] = NONE;
            struckNote[count] = note;
            count++;
            return count - 1;
        }

        int howManyKnown() {
            return knownBy == NONE ? count : knownBy;
        }

        // From the last one on: whatever strikes a STRIKE lies behind it.
        void findStruck() {
            int many = howManyKnown();
            for (int i = 0; i < many; i++) {
                struck[i] = false;
            }
            for (int i = many - 1; i >= 0; i--) {
                if (!struck[i] && struckNote[i] != NONE) {
                    struck[struckNote[i]] = true;
                }
            }
        }

        boolean isKnownSeat(int note) {
            return !struck[note] && struckNote[note] == NONE;
        }
    }

    /** STROKES and rules by call, to be undone. */
    private static final class Undos {
        static final int THE_RULE = -1;
        int count;
        final int[] surfer;
        final int[] before;

        Undos() {
            surfer = new int[MOST_UNDONE];
            before = new int[MOST_UNDONE];
        }

        void add(int whose, int was) {
            if (count >= MOST_UNDONE) {
                System.arraycopy(surfer, 1, surfer, 0, MOST_UNDONE - 1);
                System.arraycopy(before, 1, before, 0, MOST_UNDONE - 1);
                count = MOST_UNDONE - 1;
            }
            surfer[count] = whose;
            before[count] = was;
            count++;
        }
    }
}
