/** A registrar of years already lived, in which people deal; ../shared/DOC.md tells what each call answers. */
public final class YearTrade {
    public static final int NONE = -1;

    private static final int NOT_SO = -2;
    private static final int NO_PLACE = -3;
    private static final int NOT_PAWNED = -2;
    private static final int NOBODY = 8;

    private static final int PEOPLE = 8;
    private static final int ALL_PEOPLE = 255;
    private static final int YEARS = 40;
    private static final int HALF = 20;
    private static final int HANDS = 16;
    private static final int SKILLS = 12;
    private static final int ALL_SKILLS = 4095;
    private static final int LAST_DATE = 99;
    private static final int LAST_MARK = 9;
    private static final int MOST_COINS = 99999;
    private static final int MOST_PRICE = 9999;
    private static final int MOST_DAYS = 100;
    private static final int LAST_X = 65535;

    private static final int TAPE = 260;
    private static final int FED = 20;
    private static final int LAW_TEXT = 240;
    private static final int DEAL_TEXT = 160;
    private static final int CLAUSES = 16;
    private static final int OPEN = 6;
    private static final int ACTS = 16;
    private static final int ORDERED = 6;
    private static final int LOOKED_AT = 12;
    private static final int SOLD = 6;
    private static final int SHARED = 5;
    /** The least number that can be shared alike among one to five. */
    private static final int PARTS = 60;

    private static final int HANDS_FROM = 20;
    private static final int PAYS_FROM = 20;
    private static final int AGES_FROM = 10;
    private static final int AS_A_WHOLE = 10;

    private final Tape tape = new Tape();
    private final Text text = new Text();
    private final Book book = new Book();
    private final Book kept = new Book();
    private final Book trial = new Book();
    private final Law theLaw = new Law();
    private final LawReader lawReader = new LawReader();
    private final Deals acts = new Deals();
    private final Calendar calendar = new Calendar();
    private final Past past = new Past();
    private final Shop shop = new Shop();
    private final Fair fair = new Fair();
    private boolean isKept;
    private int fallen;

    public YearTrade() {
    }

    public boolean person(int p, int coins) {
        if (p < 0 || p >= PEOPLE || coins < 0 || coins > MOST_COINS) return false;
        book.people |= 1 << p;
        book.coins[p] = coins;
        return true;
    }

    public boolean year(int y, int date, int liver, int skills, int met, boolean deed, int mark) {
        if (y < 0 || y >= YEARS || date < 0 || date > LAST_DATE || mark < 0 || mark > LAST_MARK) return false;
        if (skills < 0 || skills > ALL_SKILLS || !book.hasPerson(liver) || !book.hasGroup(met)) return false;
        if ((met >> liver & 1) != 0) return false;
        book.date[y] = date;
        book.skills[y] = skills;
        book.met[y] = met;
        book.mark[y] = mark;
        book.bear(y, liver, deed);
        return true;
    }

    public int feed(int a, int b, int c, int d, int e) {
        if (tape.count + FED > TAPE) return NONE;
        tape.put(a);
        tape.put(b);
        tape.put(c);
        tape.put(d);
        tape.put(e);
        return tape.count;
    }

    public int law(int n) {
        if (!tape.has(n, LAW_TEXT)) return NONE;
        text.take(tape, n);
        if (!lawReader.read(text)) return text.fault;
        theLaw.copy(lawReader.draft);
        return theLaw.count;
    }

    public int deals(int n) {
        if (!tape.has(n, DEAL_TEXT)) return NONE;
        text.take(tape, n);
        if (!acts.read(text)) return text.fault;
        int done = 0;
        for (int i = 0; i < acts.count; i++) {
            if (acts.perform(book, theLaw, i)) done++;
        }
        return done;
    }

    public int judged(int n) {
        if (!tape.has(n, DEAL_TEXT)) return NONE;
        text.take(tape, n);
        if (!acts.read(text)) return text.fault;
        trial.copy(book);
        for (int i = 0; i < acts.count; i++) {
            if (!acts.perform(trial, theLaw, i)) return i;
        }
        return acts.count;
    }

    public int yearIs(int y, int what) {
        if (!book.hasYear(y)) return NONE;
        switch (what) {
            case 0: return book.date[y];
            case 1: return book.liver[y];
            case 2: return book.skills[y];
            case 3: return book.met[y];
            case 4: return book.hasDeed(y) ? 1 : 0;
            case 5: return book.mark[y];
            case 6: return book.owner[y];
            case 7: return book.holder[y];
            case 8: return book.owed[y];
            case 9: return book.handCount[y];
            default: return book.handAt(y, what < HANDS_FROM ? NONE : what - HANDS_FROM);
        }
    }

    public int personIs(int p, int what) {
        if (!book.hasPerson(p)) return NONE;
        switch (what) {
            case 0: return book.coins[p];
            case 1: return Long.bitCount(book.owned(p));
            case 2: return book.taughtBy(book.owned(p));
            case 3: return Long.bitCount(book.had(p));
            case 4: return Long.bitCount(book.held(p));
            default: return NONE;
        }
    }

    public int years(int p, int what) {
        if (!book.hasPerson(p) || what < 0 || what > 3) return NONE;
        long which = what < 2 ? book.owned(p) : book.had(p);
        int half = (1 << HALF) - 1;
        return (int) (which >>> HALF * (what & 1)) & half;
    }

    public int worth(int y, int p) {
        if (!book.hasYear(y) || !book.hasPerson(p)) return NONE;
        return theLaw.amount(book, 'v', y, p, 0);
    }

    public int may(int y, int p, int price) {
        if (!book.hasYear(y) || !book.hasPerson(p) || price < 0 || price > MOST_PRICE) return NONE;
        return theLaw.forbids(book, y, p, price) ? 0 : 1;
    }

    public int clashes(int p) {
        return book.hasPerson(p) ? past.clashesOf(book, p) : NONE;
    }

    public int givenBack(int p, int i, int what) {
        if (!book.hasPerson(p) || what < 0 || what > 2) return NONE;
        past.gatherClashing(book, p);
        if (what == 2) return i < 0 || i >= past.clashing ? NOT_SO : past.clashingAt(i);
        int which = past.fewestBack();
        return what == 0 ? Integer.bitCount(which) : which;
    }

    public int deeds(int p, int rule) {
        if (!book.hasPerson(p) || rule < 0 || rule > 2) return NONE;
        int count = 0;
        for (int y = 0; y < YEARS; y++) {
            if (book.hasDeed(y) && Past.doer(book, y, rule) == p) count++;
        }
        return count;
    }

    public int taught(int p, int skills, int what) {
        if (!book.hasPerson(p) || skills < 0 || skills > ALL_SKILLS || what < 0 || what > 2) return NONE;
        int needed = skills & ~book.taughtBy(book.owned(p));
        shop.gatherOffers(book, theLaw, p, needed);
        if (!shop.findCheapest(needed)) return NOT_SO;
        if (what == 2) return book.coins[p] >= shop.cost ? 1 : 0;
        return what == 0 ? shop.cost : shop.bought;
    }

    public int share(int people, int p, int what) {
        if (!book.hasGroup(people) || !book.hasPerson(p) || what < 0 || what > 1) return NONE;
        if (Integer.bitCount(people) > SHARED || (people >> p & 1) == 0) return NONE;
        int above = 100 * shop.partsOf(book, people, p);
        int common = commonDivisor(above, PARTS);
        if (common == 0) return NONE;
        return (what == 0 ? above : PARTS) / common;
    }

    public int sold(int n, int people, int what) {
        if (!tape.has(n, SOLD)) return NONE;
        text.take(tape, n);
        if (!fair.readSale(book, text)) return NOT_SO;
        if (!book.hasGroup(people)) return NO_PLACE;
        int buyer = what - PAYS_FROM;
        boolean buys = buyer >= 0 && buyer < PEOPLE && (people >> buyer & 1) != 0;
        if (!buys && what != AS_A_WHOLE && (what < 0 || what >= n)) return NO_PLACE;
        fair.sell(book, theLaw, people);
        if (buys) return fair.pays(people, buyer);
        return what == AS_A_WHOLE ? fair.together(people) : fair.getsAt(what);
    }

    public int ring(int n, int what) {
        if (!tape.has(n, PEOPLE)) return NONE;
        text.take(tape, n);
        if (!fair.readRing(book, text)) return NOT_SO;
        if (what != AS_A_WHOLE && (what < 0 || what >= n)) return NO_PLACE;
        fair.turn(book, theLaw);
        return what == AS_A_WHOLE ? fair.changed() : fair.getsAt(what);
    }

    public long forged(int y, int what) {
        switch (what) {
            case 0: return past.fewestForged(book);
            case 1: return past.waysForged(book);
            case 2: return !book.hasYear(y) ? NONE : past.maybeForged(book, y) ? 1 : 0;
            default: return NONE;
        }
    }

    public int dealtIn(int n) {
        if (n < 0 || n > HANDS) return NONE;
        int count = 0;
        for (int y = 0; y < YEARS; y++) {
            if (book.hasDeed(y) && book.handCount[y] >= n) count++;
        }
        return count;
    }

    public int days(int n) {
        if (n < 1 || n > MOST_DAYS) return NONE;
        int falls = calendar.pass(book, theLaw, n);
        fallen += falls;
        return falls;
    }

    public int tried(int n, int what) {
        int p = what - AGES_FROM;
        if (n < 1 || n > MOST_DAYS || (what != 0 && what != 1 && !book.hasPerson(p))) return NONE;
        trial.copy(book);
        int falls = calendar.pass(trial, theLaw, n);
        if (what == 0) return falls;
        return what == 1 ? trial.allCoins() : Long.bitCount(trial.owned(p));
    }

    public int inOrder(int n, int what) {
        if (!tape.has(n, DEAL_TEXT)) return NONE;
        text.take(tape, n);
        if (!acts.read(text)) return text.fault;
        if (acts.count > ORDERED || what < NONE || what >= acts.count) return NO_PLACE;
        trial.copy(book);
        boolean found = acts.findOrder(trial, theLaw, 0, 0);
        if (what == NONE) return found ? 1 : 0;
        return found ? acts.order[what] : NOT_SO;
    }

    public int common(int p, int q, int what) {
        if (!book.hasPerson(p) || !book.hasPerson(q) || p == q || what < 0 || what > 2) return NONE;
        if (what == 0) return book.taughtBy(book.owned(p)) & book.taughtBy(book.owned(q));
        long both = book.had(p) & book.had(q);
        return what == 1 ? Long.bitCount(both) : past.firstDate(book, both);
    }

    public int linked(int p, int q, int what) {
        if (!book.hasPerson(p) || !book.hasPerson(q)) return NO_PLACE;
        past.measureSteps(book, q);
        int steps = past.steps[p];
        if (steps == NONE) return NOT_SO;
        if (what == NONE) return steps;
        return what < 0 || what > steps ? NO_PLACE : past.onTheWay(p, what);
    }

    public int regime(int p, int from, int to) {
        if (!book.hasPerson(p) || from < 0 || to > LAST_DATE || to < from) return NONE;
        return past.regimePay(book, p, from, to);
    }

    public boolean seed(int x) {
        if (x < 0 || x > LAST_X) return false;
        book.x = x;
        return true;
    }

    public int keep() {
        kept.copy(book);
        isKept = true;
        return Long.bitCount(book.years);
    }

    public boolean undo() {
        if (!isKept) return false;
        book.copy(kept);
        return true;
    }

    public int check(int n) {
        if (n < 0 || n > YEARS || 4 * n > tape.count) return NOT_SO;
        text.take(tape, 4 * n);
        for (int y = 0; y < n; y++) {
            int right = book.hasYear(y) ? book.owner[y] : 0;
            if (text.number(y) != right) return y;
        }
        return NONE;
    }

    public int count(int what) {
        switch (what) {
            case 0: return book.people;
            case 1: return Long.bitCount(book.years);
            case 2: return theLaw.count;
            case 3: return tape.count;
            case 4: return book.x;
            case 5: return book.today;
            case 6: return book.pawns();
            case 7: return book.allCoins();
            case 8: return fallen;
            default: return NONE;
        }
    }

    private static int commonDivisor(int a, int b) {
        for (int i = 0; i < 64 && b != 0; i++) {
            int rest = a % b;
            a = b;
            b = rest;
        }
        return a;
    }

    /** The bytes that were fed and not used yet. */
    private static final class Tape {
        final int[] bytes = new int[TAPE];
        int count;

        boolean has(int n, int most) {
            return n >= 1 && n <= most && n <= count;
        }

        void put(int number) {
            for (int shift = 24; shift >= 0; shift -= 8) {
                if (count >= 0 && count < TAPE) bytes[count++] = number >>> shift & 255;
            }
        }
    }

    /** Bytes taken from the tape, read from the left on. Only the first fault is kept: nothing behind it is looked at. */
    private static final class Text {
        final int[] signs = new int[TAPE];
        int length;
        int place;
        int sign;
        int fault;

        void take(Tape tape, int n) {
            length = Math.max(0, Math.min(n, TAPE));
            System.arraycopy(tape.bytes, 0, signs, 0, length);
            tape.count = 0;
            place = 0;
            sign = signAt(0);
            fault = 0;
        }

        int signAt(int at) {
            return at >= 0 && at < length && at < TAPE ? signs[at] : NONE;
        }

        boolean ended() {
            return place >= length;
        }

        void step() {
            if (place < length) place++;
            sign = signAt(place);
        }

        boolean blame(int number, int at) {
            if (fault == 0) fault = -1000 * number - at;
            return false;
        }

        boolean misplaced() {
            return blame(1, place);
        }

        boolean pass(int wanted) {
            if (sign != wanted) return misplaced();
            step();
            return true;
        }

        boolean atDigit() {
            return sign >= '0' && sign <= '9';
        }

        int digits(int most) {
            int number = 0;
            for (int i = 0; i < most && atDigit(); i++) {
                number = 10 * number + sign - '0';
                step();
            }
            return number;
        }

        int number(int i) {
            int at = 4 * i;
            return signAt(at) << 24 | signAt(at + 1) << 16 | signAt(at + 2) << 8 | signAt(at + 3);
        }
    }

    /** PEOPLE, YEARS, pawns, TODAY and X: all that is kept and undone. */
    private static final class Book {
        int people;
        long years;
        long deedful;
        int today;
        int x = 1;
        final int[] coins = new int[PEOPLE];
        final int[] date = new int[YEARS];
        final int[] liver = new int[YEARS];
        final int[] skills = new int[YEARS];
        final int[] met = new int[YEARS];
        final int[] mark = new int[YEARS];
        final int[] owner = new int[YEARS];
        final int[] holder = new int[YEARS];
        final int[] lent = new int[YEARS];
        final int[] owed = new int[YEARS];
        final int[] handCount = new int[YEARS];
        final int[] hands = new int[YEARS * HANDS];

        void copy(Book other) {
            people = other.people;
            years = other.years;
            deedful = other.deedful;
            today = other.today;
            x = other.x;
            System.arraycopy(other.coins, 0, coins, 0, PEOPLE);
            System.arraycopy(other.date, 0, date, 0, YEARS);
            System.arraycopy(other.liver, 0, liver, 0, YEARS);
            System.arraycopy(other.skills, 0, skills, 0, YEARS);
            System.arraycopy(other.met, 0, met, 0, YEARS);
            System.arraycopy(other.mark, 0, mark, 0, YEARS);
            System.arraycopy(other.owner, 0, owner, 0, YEARS);
            System.arraycopy(other.holder, 0, holder, 0, YEARS);
            System.arraycopy(other.lent, 0, lent, 0, YEARS);
            System.arraycopy(other.owed, 0, owed, 0, YEARS);
            System.arraycopy(other.handCount, 0, handCount, 0, YEARS);
            System.arraycopy(other.hands, 0, hands, 0, YEARS * HANDS);
        }

        boolean hasPerson(int p) {
            return p >= 0 && p < PEOPLE && (people >> p & 1) != 0;
        }

        boolean hasGroup(int group) {
            return group >= 0 && group <= ALL_PEOPLE && (group & ~people) == 0;
        }

        boolean hasYear(int y) {
            return y >= 0 && y < YEARS && (years >>> y & 1) != 0;
        }

        boolean hasDeed(int y) {
            return hasYear(y) && (deedful >>> y & 1) != 0;
        }

        boolean isPawned(int y) {
            return hasYear(y) && holder[y] != NOT_PAWNED;
        }

        void bear(int y, int p, boolean deed) {
            if (y < 0 || y >= YEARS) return;
            years |= 1L << y;
            deedful = deed ? deedful | 1L << y : deedful & ~(1L << y);
            liver[y] = p;
            handCount[y] = 0;
            give(y, p);
        }

        void give(int y, int p) {
            if (!hasYear(y)) return;
            owner[y] = p;
            free(y);
            int behind = handCount[y];
            if (behind < 0 || behind >= HANDS) return;
            hands[y * HANDS + behind] = p;
            handCount[y] = behind + 1;
        }

        void pawn(int y, int p, int price) {
            if (!hasYear(y)) return;
            holder[y] = p;
            lent[y] = price;
            owed[y] = price;
        }

        void free(int y) {
            pawn(y, NOT_PAWNED, 0);
        }

        int coinsOf(int p) {
            return p >= 0 && p < PEOPLE && (people >> p & 1) != 0 ? coins[p] : 0;
        }

        void earn(int p, int more) {
            if (hasPerson(p)) coins[p] = Math.min(MOST_COINS, coins[p] + more);
        }

        void pay(int from, int to, int price) {
            if (!hasPerson(from)) return;
            coins[from] -= price;
            earn(to, price);
        }

        int allCoins() {
            int sum = 0;
            for (int p = 0; p < PEOPLE; p++) sum += coinsOf(p);
            return sum;
        }

        int pawns() {
            int count = 0;
            for (int y = 0; y < YEARS; y++) {
                if (isPawned(y)) count++;
            }
            return count;
        }

        int handAt(int y, int k) {
            if (!hasYear(y) || k < 0 || k >= HANDS || k >= handCount[y]) return NONE;
            return hands[y * HANDS + k];
        }

        /** The people in whose hands a year has been, as bits. */
        int handsOf(int y) {
            int group = 0;
            if (!hasYear(y)) return group;
            for (int k = 0; k < HANDS && k < handCount[y]; k++) group |= 1 << hands[y * HANDS + k];
            return group;
        }

        long owned(int p) {
            long which = 0;
            for (int y = 0; y < YEARS; y++) {
                if ((years >>> y & 1) != 0 && owner[y] == p) which |= 1L << y;
            }
            return which;
        }

        long had(int p) {
            long which = 0;
            for (int y = 0; y < YEARS; y++) {
                if ((handsOf(y) >> p & 1) != 0) which |= 1L << y;
            }
            return which;
        }

        long held(int p) {
            long which = 0;
            for (int y = 0; y < YEARS; y++) {
                if (isPawned(y) && holder[y] == p) which |= 1L << y;
            }
            return which;
        }

        long ofDates(int from, int to) {
            long which = 0;
            for (int y = 0; y < YEARS; y++) {
                if (hasYear(y) && date[y] >= from && date[y] <= to) which |= 1L << y;
            }
            return which;
        }

        int taughtBy(long which) {
            int all = 0;
            for (int y = 0; y < YEARS; y++) {
                if ((which >>> y & 1) != 0) all |= skills[y];
            }
            return all;
        }
    }

    /**
     * The law as code for a machine with a stack. & and | are jumps behind what need not be asked any more:
     * they leave what they have looked at on the stack when they jump, and take it away when they do not.
     */
    private static final class Law {
        private static final int NUMBER = 0;
        private static final int LETTER = 1;
        private static final int STACK = 64;

        final int[] ops = new int[LAW_TEXT];
        final int[] args = new int[LAW_TEXT];
        int size;
        final int[] letter = new int[CLAUSES];
        final int[] amountAt = new int[CLAUSES];
        final int[] conditionAt = new int[CLAUSES];
        final int[] endAt = new int[CLAUSES];
        int count;
        final int[] stack = new int[STACK];
        int year;
        int person;
        int price;

        void copy(Law other) {
            System.arraycopy(other.ops, 0, ops, 0, LAW_TEXT);
            System.arraycopy(other.args, 0, args, 0, LAW_TEXT);
            System.arraycopy(other.letter, 0, letter, 0, CLAUSES);
            System.arraycopy(other.amountAt, 0, amountAt, 0, CLAUSES);
            System.arraycopy(other.conditionAt, 0, conditionAt, 0, CLAUSES);
            System.arraycopy(other.endAt, 0, endAt, 0, CLAUSES);
            count = other.count;
        }

        /** A sign of the text emits one instruction at most, so that the rows are long enough for every law. */
        int emit(int op, int arg) {
            if (size < 0 || size >= LAW_TEXT) return NONE;
            ops[size] = op;
            args[size] = arg;
            return size++;
        }

        void jumpToHere(int from) {
            if (from >= 0 && from < LAW_TEXT) args[from] = size;
        }

        void close(int kind, int amountFrom, int conditionFrom) {
            if (count < 0 || count >= CLAUSES) return;
            letter[count] = kind;
            amountAt[count] = amountFrom;
            conditionAt[count] = conditionFrom;
            endAt[count] = size;
            count++;
        }

        boolean forbids(Book book, int y, int buyer, int z) {
            ask(y, buyer, z);
            return clauseThatHolds(book, 'n') != NONE;
        }

        int amount(Book book, int kind, int y, int p, int z) {
            ask(y, p, z);
            int i = clauseThatHolds(book, kind);
            if (i < 0 || i >= CLAUSES) return 0;
            return Math.max(0, Math.min(most(kind), run(book, amountAt[i], conditionAt[i])));
        }

        private void ask(int y, int p, int z) {
            year = y;
            person = p;
            price = z;
        }

        private static int most(int kind) {
            switch (kind) {
                case 'i': return 99;
                case 'f': return 10;
                default: return 999;
            }
        }

        private int clauseThatHolds(Book book, int kind) {
            for (int i = 0; i < count && i < CLAUSES; i++) {
                if (letter[i] == kind && run(book, conditionAt[i], endAt[i]) != 0) return i;
            }
            return NONE;
        }

        /** What is divided by 0 ends the run with 0, as a C that does not hold and an E that is 0 do. */
        private int run(Book book, int from, int to) {
            int top = 0;
            for (int at = Math.max(0, from); at < to && at < LAW_TEXT; at++) {
                int op = ops[at];
                if (op == NUMBER || op == LETTER) {
                    if (top >= STACK) return 0;
                    stack[top++] = op == NUMBER ? args[at] : letterIs(book, args[at]);
                } else if (op == '&' || op == '|') {
                    if (top < 1) return 0;
                    boolean holds = stack[top - 1] != 0;
                    if (holds == (op == '|')) at = Math.max(at, args[at] - 1);
                    else top--;
                } else if (op == '!') {
                    if (top < 1) return 0;
                    stack[top - 1] = 1 - stack[top - 1];
                } else {
                    if (top < 2 || isDividedByZero(op, stack[top - 1])) return 0;
                    top--;
                    stack[top - 1] = reckoned(op, stack[top - 1], stack[top]);
                }
            }
            return top > 0 ? stack[top - 1] : 0;
        }

        private static boolean isDividedByZero(int op, int divisor) {
            return divisor == 0 && (op == '/' || op == '%');
        }

        private static int reckoned(int op, int a, int b) {
            switch (op) {
                case '+': return a + b;
                case '-': return a - b;
                case '*': return a * b;
                case '/': return b == 0 ? 0 : a / b;
                case '%': return b == 0 ? 0 : a % b;
                case '<': return a < b ? 1 : 0;
                case '>': return a > b ? 1 : 0;
                default: return a == b ? 1 : 0;
            }
        }

        private int letterIs(Book book, int sign) {
            switch (sign) {
                case 't': return book.today;
                case 'p': return person;
                case 'a': return Long.bitCount(book.owned(person));
                case 'c': return book.coinsOf(person);
                default: break;
            }
            if (year < 0 || year >= YEARS) return 0;
            switch (sign) {
                case 'y': return year;
                case 'd': return book.date[year];
                case 'l': return book.liver[year];
                case 'o': return book.owner[year];
                case 's': return Integer.bitCount(book.skills[year]);
                case 'm': return Integer.bitCount(book.met[year]);
                case 'k': return (int) (book.deedful >>> year & 1);
                case 'h': return book.handCount[year];
                case 'e': return Integer.bitCount(book.skills[year] & book.taughtBy(book.owned(person) & ~(1L << year)));
                default: return price;
            }
        }
    }

    /** Reads the text of a law into a draft; "open" is how many of ( [ ! are open in one another. */
    private static final class LawReader {
        final Law draft = new Law();

        boolean read(Text text) {
            draft.size = 0;
            draft.count = 0;
            for (int i = 0; i <= CLAUSES; i++) {
                if (!clause(text, i)) return false;
                if (text.ended()) return true;
                if (!text.pass(';')) return false;
            }
            return false;
        }

        private boolean clause(Text text, int i) {
            int kind = text.sign;
            if (kind != 'n' && kind != 'v' && kind != 'i' && kind != 'f' && kind != 'g') return text.misplaced();
            if (i >= CLAUSES) return text.blame(4, text.place);
            text.step();
            int amountFrom = draft.size;
            if (kind != 'n' && !sum(text, 0)) return false;
            int conditionFrom = draft.size;
            if (!text.pass('(') || !condition(text, 1) || !text.pass(')')) return false;
            draft.close(kind, amountFrom, conditionFrom);
            return true;
        }

        private boolean condition(Text text, int open) {
            if (!part(text, open)) return false;
            for (int i = 0; i < LAW_TEXT && text.sign == '|'; i++) {
                text.step();
                int jump = draft.emit('|', 0);
                if (!part(text, open)) return false;
                draft.jumpToHere(jump);
            }
            return true;
        }

        private boolean part(Text text, int open) {
            if (!piece(text, open)) return false;
            for (int i = 0; i < LAW_TEXT && text.sign == '&'; i++) {
                text.step();
                int jump = draft.emit('&', 0);
                if (!piece(text, open)) return false;
                draft.jumpToHere(jump);
            }
            return true;
        }

        private boolean piece(Text text, int open) {
            int sign = text.sign;
            if ((sign == '!' || sign == '(') && open >= OPEN) return text.blame(5, text.place);
            if (sign == '(') {
                text.step();
                return condition(text, open + 1) && text.pass(')');
            }
            if (sign == '!') {
                text.step();
                if (!piece(text, open + 1)) return false;
                draft.emit('!', 0);
                return true;
            }
            if (!sum(text, open)) return false;
            int comparison = text.sign;
            if (comparison != '<' && comparison != '>' && comparison != '=') return text.misplaced();
            text.step();
            if (!sum(text, open)) return false;
            draft.emit(comparison, 0);
            return true;
        }

        private boolean sum(Text text, int open) {
            if (!product(text, open)) return false;
            for (int i = 0; i < LAW_TEXT && isSumSign(text.sign); i++) {
                int sign = text.sign;
                text.step();
                if (!product(text, open)) return false;
                draft.emit(sign, 0);
            }
            return true;
        }

        private boolean product(Text text, int open) {
            if (!factor(text, open)) return false;
            for (int i = 0; i < LAW_TEXT && isProductSign(text.sign); i++) {
                int sign = text.sign;
                text.step();
                if (!factor(text, open)) return false;
                draft.emit(sign, 0);
            }
            return true;
        }

        private static boolean isSumSign(int sign) {
            return sign == '+' || sign == '-';
        }

        private static boolean isProductSign(int sign) {
            return sign == '*' || sign == '/' || sign == '%';
        }

        private boolean factor(Text text, int open) {
            if (text.atDigit()) {
                draft.emit(Law.NUMBER, text.digits(5));
                return !text.atDigit() || text.blame(2, text.place);
            }
            int sign = text.sign;
            if (sign == '[') {
                if (open >= OPEN) return text.blame(5, text.place);
                text.step();
                return sum(text, open + 1) && text.pass(']');
            }
            if (!isLetter(sign)) return text.misplaced();
            text.step();
            draft.emit(Law.LETTER, sign);
            return true;
        }

        private static boolean isLetter(int sign) {
            switch (sign) {
                case 't':
                case 'y':
                case 'd':
                case 'l':
                case 'o':
                case 's':
                case 'm':
                case 'k':
                case 'h':
                case 'p':
                case 'a':
                case 'c':
                case 'e':
                case 'z': return true;
                default: return false;
            }
        }
    }

    /** The acts of a text, and how they are done. */
    private static final class Deals {
        private static final int SAVED = 7;

        final int[] year = new int[ACTS];
        final int[] first = new int[ACTS];
        final int[] sign = new int[ACTS];
        final int[] second = new int[ACTS];
        final int[] price = new int[ACTS];
        int count;
        final int[] order = new int[ORDERED];
        final int[] saved = new int[ORDERED * SAVED];

        boolean read(Text text) {
            count = 0;
            for (int i = 0; i <= ACTS; i++) {
                if (!readAct(text)) return false;
                if (text.ended()) return true;
                if (!text.pass(';')) return false;
            }
            return false;
        }

        private boolean readAct(Text text) {
            if (!text.atDigit()) return text.misplaced();
            int at = text.place;
            if (count < 0 || count >= ACTS) return text.blame(4, at);
            year[count] = text.digits(2);
            if (year[count] >= YEARS) return text.blame(3, at);
            if (!isPerson(text.sign)) return text.misplaced();
            first[count] = text.sign - 'a';
            text.step();
            return readDeal(text);
        }

        private boolean readDeal(Text text) {
            if (count < 0 || count >= ACTS) return false;
            int way = text.sign;
            if (way != '>' && way != ']' && way != '[' && way != '=') return text.misplaced();
            sign[count] = way;
            text.step();
            if (!isPerson(text.sign)) return text.misplaced();
            second[count] = text.sign - 'a';
            if (second[count] == first[count]) return text.blame(6, text.place);
            text.step();
            boolean isPriced = way == '>' || way == ']';
            if (isPriced && !text.atDigit()) return text.misplaced();
            price[count] = isPriced ? text.digits(4) : 0;
            count++;
            return true;
        }

        private static boolean isPerson(int letter) {
            return letter >= 'a' && letter <= 'h';
        }

        boolean canBe(Book book, Law law, int i) {
            if (i < 0 || i >= count || i >= ACTS) return false;
            int y = year[i];
            int p = first[i];
            int q = second[i];
            if (!book.hasYear(y) || !book.hasPerson(p) || !book.hasPerson(q) || book.owner[y] != p) return false;
            if (sign[i] == '[') return book.holder[y] == q && book.coins[p] >= book.owed[y];
            return book.holder[y] == NOT_PAWNED && book.coins[q] >= price[i] && !law.forbids(book, y, q, price[i]);
        }

        boolean perform(Book book, Law law, int i) {
            if (!canBe(book, law, i)) return false;
            carryOut(book, i);
            return true;
        }

        private void carryOut(Book book, int i) {
            if (i < 0 || i >= ACTS || !book.hasYear(year[i])) return;
            int y = year[i];
            int p = first[i];
            int q = second[i];
            if (sign[i] == '[') {
                book.pay(p, q, book.owed[y]);
                book.free(y);
                return;
            }
            book.pay(q, p, price[i]);
            if (sign[i] == ']') book.pawn(y, q, price[i]);
            else book.give(y, q);
        }

        /** Tries the acts in all orders, the least first; when one is found the book stands as behind it. */
        boolean findOrder(Book book, Law law, int done, int used) {
            if (done >= count) return true;
            if (done < 0 || done >= ORDERED) return false;
            for (int i = 0; i < count && i < ACTS; i++) {
                if ((used >> i & 1) != 0 || !canBe(book, law, i)) continue;
                save(book, i, done * SAVED);
                carryOut(book, i);
                order[done] = i;
                if (findOrder(book, law, done + 1, used | 1 << i)) return true;
                restore(book, i, done * SAVED);
            }
            return false;
        }

        private void save(Book book, int i, int at) {
            if (i < 0 || i >= ACTS || at < 0 || at + SAVED > ORDERED * SAVED) return;
            int y = year[i];
            if (!book.hasYear(y)) return;
            saved[at] = book.coinsOf(first[i]);
            saved[at + 1] = book.coinsOf(second[i]);
            saved[at + 2] = book.owner[y];
            saved[at + 3] = book.holder[y];
            saved[at + 4] = book.lent[y];
            saved[at + 5] = book.owed[y];
            saved[at + 6] = book.handCount[y];
        }

        private void restore(Book book, int i, int at) {
            if (i < 0 || i >= ACTS || at < 0 || at + SAVED > ORDERED * SAVED) return;
            int y = year[i];
            if (!book.hasYear(y) || !book.hasPerson(first[i]) || !book.hasPerson(second[i])) return;
            book.coins[first[i]] = saved[at];
            book.coins[second[i]] = saved[at + 1];
            book.owner[y] = saved[at + 2];
            book.holder[y] = saved[at + 3];
            book.lent[y] = saved[at + 4];
            book.owed[y] = saved[at + 5];
            book.handCount[y] = saved[at + 6];
        }
    }

    /** Days that go by: pawns first, then fortunes. */
    private static final class Calendar {
        int pass(Book book, Law law, int days) {
            int falls = 0;
            for (int i = 0; i < days; i++) {
                falls += growPawns(book, law);
                drawFortunes(book, law);
                book.today++;
            }
            return falls;
        }

        private int growPawns(Book book, Law law) {
            int falls = 0;
            for (int y = 0; y < YEARS; y++) {
                if (!book.isPawned(y)) continue;
                int lent = book.lent[y];
                int more = law.amount(book, 'i', y, book.owner[y], lent);
                book.owed[y] = Math.min(MOST_COINS, book.owed[y] + more);
                if (lent > 0 && book.owed[y] >= 2 * lent) {
                    book.give(y, book.holder[y]);
                    falls++;
                }
            }
            return falls;
        }

        private void drawFortunes(Book book, Law law) {
            for (int p = 0; p < PEOPLE; p++) {
                if (!book.hasPerson(p)) continue;
                book.x = (25173 * book.x + 13849) & LAST_X;
                if (book.x % 10 < law.amount(book, 'f', NONE, p, 0)) book.earn(p, law.amount(book, 'g', NONE, p, 0));
            }
        }
    }

    /** What is asked of years as they were lived and handed on. */
    private static final class Past {
        final int[] clashingYear = new int[LOOKED_AT];
        final int[] against = new int[LOOKED_AT];
        int clashing;
        final int[] marks = new int[LAST_MARK + 1];
        int marked;
        int mostMarked;
        int mostShared;
        final int[] near = new int[PEOPLE];
        final int[] steps = new int[PEOPLE];

        private static boolean clash(Book book, int x, int y) {
            if (!book.hasYear(x) || !book.hasYear(y) || book.date[x] != book.date[y]) return false;
            int liver = book.liver[x];
            int other = book.liver[y];
            return liver != other && (book.met[x] >> other & 1) != (book.met[y] >> liver & 1);
        }

        int clashesOf(Book book, int p) {
            long owned = book.owned(p);
            int count = 0;
            for (int x = 0; x < YEARS; x++) {
                if ((owned >>> x & 1) != 0) count += clashesAbove(book, owned, x);
            }
            return count;
        }

        private static int clashesAbove(Book book, long owned, int x) {
            int count = 0;
            for (int y = x + 1; y < YEARS; y++) {
                if ((owned >>> y & 1) != 0 && clash(book, x, y)) count++;
            }
            return count;
        }

        void gatherClashing(Book book, int p) {
            long owned = book.owned(p);
            clashing = 0;
            for (int y = 0; y < YEARS && clashing < LOOKED_AT; y++) {
                if ((owned >>> y & 1) != 0 && clashesAny(book, owned, y)) clashingYear[clashing++] = y;
            }
            for (int i = 0; i < clashing && i < LOOKED_AT; i++) {
                against[i] = 0;
                for (int j = 0; j < clashing && j < LOOKED_AT; j++) {
                    if (clash(book, clashingYear[i], clashingYear[j])) against[i] |= 1 << j;
                }
            }
        }

        private static boolean clashesAny(Book book, long owned, int x) {
            for (int y = 0; y < YEARS; y++) {
                if ((owned >>> y & 1) != 0 && clash(book, x, y)) return true;
            }
            return false;
        }

        int clashingAt(int i) {
            return i >= 0 && i < clashing && i < LOOKED_AT ? clashingYear[i] : NOT_SO;
        }

        int fewestBack() {
            int all = (1 << clashing) - 1;
            int best = all;
            for (int back = 0; back < all; back++) {
                if (Integer.bitCount(back) < Integer.bitCount(best) && endsClashes(back)) best = back;
            }
            return best;
        }

        private boolean endsClashes(int back) {
            for (int i = 0; i < clashing && i < LOOKED_AT; i++) {
                if ((back >> i & 1) == 0 && (against[i] & ~back) != 0) return false;
            }
            return true;
        }

        static int doer(Book book, int y, int rule) {
            if (!book.hasYear(y)) return NONE;
            if (rule == 1) return book.isPawned(y) ? book.holder[y] : book.owner[y];
            return rule == 2 ? firstHandOfDate(book, y) : book.liver[y];
        }

        private static int firstHandOfDate(Book book, int y) {
            if (!book.hasYear(y)) return NONE;
            long sameDate = book.ofDates(book.date[y], book.date[y]);
            for (int k = 0; k < book.handCount[y]; k++) {
                int p = book.handAt(y, k);
                if ((book.owned(p) & sameDate) != 0) return p;
            }
            return book.liver[y];
        }

        private void countMarks(Book book, int date) {
            for (int m = 0; m <= LAST_MARK; m++) marks[m] = 0;
            marked = 0;
            for (int y = 0; y < YEARS; y++) {
                if (!book.hasYear(y) || book.date[y] != date) continue;
                marked++;
                int m = book.mark[y];
                if (m >= 0 && m <= LAST_MARK) marks[m]++;
            }
            mostMarked = 0;
            for (int m = 0; m <= LAST_MARK; m++) mostMarked = Math.max(mostMarked, marks[m]);
            mostShared = 0;
            for (int m = 0; m <= LAST_MARK; m++) {
                if (marks[m] == mostMarked) mostShared++;
            }
        }

        long fewestForged(Book book) {
            long sum = 0;
            for (int date = 0; date <= LAST_DATE; date++) {
                countMarks(book, date);
                sum += marked - mostMarked;
            }
            return sum;
        }

        long waysForged(Book book) {
            long ways = 1;
            for (int date = 0; date <= LAST_DATE; date++) {
                countMarks(book, date);
                if (marked > 0) ways *= mostShared;
            }
            return ways;
        }

        boolean maybeForged(Book book, int y) {
            if (!book.hasYear(y)) return false;
            countMarks(book, book.date[y]);
            int m = book.mark[y];
            return mostShared > 1 || (m >= 0 && m <= LAST_MARK && marks[m] < mostMarked);
        }

        int firstDate(Book book, long which) {
            int first = NOT_SO;
            for (int y = 0; y < YEARS; y++) {
                if ((which >>> y & 1) == 0) continue;
                if (first == NOT_SO || book.date[y] < first) first = book.date[y];
            }
            return first;
        }

        void measureSteps(Book book, int goal) {
            for (int p = 0; p < PEOPLE; p++) {
                near[p] = 0;
                steps[p] = p == goal ? 0 : NONE;
            }
            for (int y = 0; y < YEARS; y++) bringTogether(book.handsOf(y));
            for (int done = 0; done < PEOPLE; done++) {
                for (int p = 0; p < PEOPLE; p++) {
                    if (steps[p] == done) stepOn(p);
                }
            }
        }

        private void bringTogether(int group) {
            for (int p = 0; p < PEOPLE; p++) {
                if ((group >> p & 1) != 0) near[p] |= group;
            }
        }

        private void stepOn(int p) {
            if (p < 0 || p >= PEOPLE) return;
            for (int q = 0; q < PEOPLE; q++) {
                if ((near[p] >> q & 1) != 0 && steps[q] == NONE) steps[q] = steps[p] + 1;
            }
        }

        int onTheWay(int from, int place) {
            int p = from;
            for (int i = 0; i < place && i < PEOPLE; i++) p = nextOnTheWay(p);
            return p;
        }

        private int nextOnTheWay(int p) {
            if (p < 0 || p >= PEOPLE) return p;
            for (int q = 0; q < PEOPLE; q++) {
                if ((near[p] >> q & 1) != 0 && steps[q] == steps[p] - 1) return q;
            }
            return p;
        }

        int regimePay(Book book, int p, int from, int to) {
            long owned = book.owned(p);
            int pay = 0;
            for (int date = from; date <= to && date <= LAST_DATE; date++) {
                if ((owned & book.ofDates(date, date)) != 0) pay += 10;
            }
            return pay + Integer.bitCount(book.taughtBy(owned & book.ofDates(from, to)));
        }
    }

    /** Skills that are bought, and what a group's skills are worth. */
    private static final class Shop {
        private static final int UNREACHED = 1000000;
        /** The most years a set needs is 12, so that the price and the number of years share one int. */
        private static final int COINS_UNIT = 16;

        final int[] teaches = new int[YEARS];
        final int[] asks = new int[YEARS];
        int offers;
        final int[] least = new int[ALL_SKILLS + 1];
        final int[] known = new int[PEOPLE];
        int cost;
        int bought;

        void gatherOffers(Book book, Law law, int p, int needed) {
            offers = 0;
            for (int y = 0; y < YEARS; y++) {
                if (!book.hasYear(y) || book.owner[y] == p || book.isPawned(y) || (book.skills[y] & needed) == 0) continue;
                int price = law.amount(book, 'v', y, book.owner[y], 0);
                if (law.forbids(book, y, p, price) || offers < 0 || offers >= YEARS) continue;
                teaches[offers] = book.skills[y] & needed;
                asks[offers] = COINS_UNIT * price + 1;
                offers++;
            }
        }

        /** Each set is built by its lowest missing skill first, so that every set is looked at in one order alone. */
        boolean findCheapest(int needed) {
            for (int have = 0; have <= ALL_SKILLS; have++) least[have] = UNREACHED;
            least[0] = 0;
            for (int have = 0; have < needed && have <= ALL_SKILLS; have++) {
                if (least[have] != UNREACHED) addOffers(have, needed);
            }
            int found = needed >= 0 && needed <= ALL_SKILLS ? least[needed] : UNREACHED;
            cost = found / COINS_UNIT;
            bought = found % COINS_UNIT;
            return found != UNREACHED;
        }

        private void addOffers(int have, int needed) {
            int missing = needed & ~have;
            int lowest = missing & -missing;
            for (int i = 0; i < offers && i < YEARS; i++) {
                int then = have | teaches[i];
                if ((teaches[i] & lowest) == 0 || then < 0 || then > ALL_SKILLS) continue;
                least[then] = Math.min(least[then], least[have] + asks[i]);
            }
        }

        /** By all orders on the mean, each skill is shared alike by those of the group who know it. */
        int partsOf(Book book, int group, int p) {
            if (p < 0 || p >= PEOPLE) return 0;
            for (int q = 0; q < PEOPLE; q++) {
                known[q] = (group >> q & 1) != 0 ? book.taughtBy(book.owned(q)) : 0;
            }
            int sum = 0;
            for (int skill = 0; skill < SKILLS; skill++) {
                int knowers = knowersOf(skill);
                if ((known[p] >> skill & 1) != 0 && knowers > 0) sum += PARTS / knowers;
            }
            return sum;
        }

        private int knowersOf(int skill) {
            int count = 0;
            for (int q = 0; q < PEOPLE; q++) count += known[q] >> skill & 1;
            return count;
        }
    }

    /** Rows of years that are sold at once, or change in rings. */
    private static final class Fair {
        final int[] row = new int[PEOPLE];
        int length;
        final int[] value = new int[PEOPLE * PEOPLE];
        final int[] most = new int[(SOLD + 1) * (ALL_PEOPLE + 1)];
        final int[] gets = new int[PEOPLE];

        private boolean readRow(Book book, Text text) {
            length = Math.min(text.length, PEOPLE);
            for (int i = 0; i < length && i < PEOPLE; i++) {
                row[i] = text.signAt(i);
                if (!book.hasYear(row[i]) || book.isPawned(row[i])) return false;
            }
            return true;
        }

        boolean readSale(Book book, Text text) {
            if (!readRow(book, text)) return false;
            long seen = 0;
            for (int i = 0; i < length && i < PEOPLE; i++) {
                if ((seen >>> row[i] & 1) != 0) return false;
                seen |= 1L << row[i];
            }
            return true;
        }

        boolean readRing(Book book, Text text) {
            if (!readRow(book, text)) return false;
            int seen = 0;
            for (int i = 0; i < length && i < PEOPLE; i++) {
                int owner = ownerAt(book, i);
                if ((seen >> owner & 1) != 0) return false;
                seen |= 1 << owner;
            }
            return true;
        }

        private int ownerAt(Book book, int i) {
            if (i < 0 || i >= PEOPLE || !book.hasYear(row[i])) return 0;
            return book.owner[row[i]];
        }

        void sell(Book book, Law law, int people) {
            for (int i = 0; i < length && i < SOLD; i++) {
                int owner = ownerAt(book, i);
                for (int p = 0; p < PEOPLE; p++) {
                    boolean mayBuy = p != owner && (people >> p & 1) != 0;
                    value[i * PEOPLE + p] = mayBuy ? law.amount(book, 'v', row[i], p, 0) : NONE;
                }
            }
            for (int i = length; i >= 0; i--) {
                for (int left = 0; left <= ALL_PEOPLE; left++) {
                    if ((left & ~people) == 0) setMost(i, left, i == length ? 0 : bestWith(i, left));
                }
            }
            handOut(people);
        }

        private void setMost(int i, int left, int sum) {
            int at = i * (ALL_PEOPLE + 1) + left;
            if (at >= 0 && at < most.length) most[at] = sum;
        }

        /** The most that the years from place i on can bring among the people that are left. */
        private int mostOf(int i, int left) {
            int at = i * (ALL_PEOPLE + 1) + left;
            return at >= 0 && at < most.length ? most[at] : 0;
        }

        private int withBuyer(int i, int left, int p) {
            int at = i * PEOPLE + p;
            if ((left >> p & 1) == 0 || at < 0 || at >= value.length || value[at] == NONE) return NONE;
            return value[at] + mostOf(i + 1, left & ~(1 << p));
        }

        private int bestWith(int i, int left) {
            int best = mostOf(i + 1, left);
            for (int p = 0; p < PEOPLE; p++) best = Math.max(best, withBuyer(i, left, p));
            return best;
        }

        private void handOut(int people) {
            int left = people;
            for (int i = 0; i < length && i < PEOPLE; i++) {
                gets[i] = NOBODY;
                for (int p = 0; p < PEOPLE && gets[i] == NOBODY; p++) {
                    if (withBuyer(i, left, p) == mostOf(i, left)) gets[i] = p;
                }
                left &= ~(1 << gets[i]);
            }
        }

        int getsAt(int i) {
            return i >= 0 && i < length && i < PEOPLE ? gets[i] : NO_PLACE;
        }

        int together(int people) {
            return mostOf(0, people);
        }

        int pays(int people, int p) {
            int own = 0;
            for (int i = 0; i < length && i < SOLD; i++) {
                if (gets[i] == p && p >= 0 && p < PEOPLE) own = value[i * PEOPLE + p];
            }
            return mostOf(0, people & ~(1 << p)) - (together(people) - own);
        }

        void turn(Book book, Law law) {
            for (int i = 0; i < length && i < PEOPLE; i++) {
                int owner = ownerAt(book, i);
                for (int j = 0; j < length && j < PEOPLE; j++) {
                    value[i * PEOPLE + j] = law.amount(book, 'v', row[j], owner, 0);
                }
            }
            int there = (1 << length) - 1;
            for (int round = 0; round < PEOPLE && there != 0; round++) there &= ~turnedOnce(there);
        }

        /** Who stands in a ring of wants among those that are there, as bits. */
        private int turnedOnce(int there) {
            for (int i = 0; i < PEOPLE; i++) {
                if ((there >> i & 1) != 0) gets[i] = wanted(i, there);
            }
            int gone = 0;
            for (int i = 0; i < PEOPLE; i++) {
                if ((there >> i & 1) != 0 && isInRing(i)) gone |= 1 << i;
            }
            return gone;
        }

        private int wanted(int i, int there) {
            if (i < 0 || i >= PEOPLE) return i;
            int best = NONE;
            int found = i;
            for (int j = 0; j < PEOPLE; j++) {
                if ((there >> j & 1) == 0 || value[i * PEOPLE + j] <= best) continue;
                best = value[i * PEOPLE + j];
                found = j;
            }
            return found;
        }

        private boolean isInRing(int i) {
            int at = i;
            for (int step = 0; step < PEOPLE; step++) {
                if (at < 0 || at >= PEOPLE) return false;
                at = gets[at];
                if (at == i) return true;
            }
            return false;
        }

        int changed() {
            int count = 0;
            for (int i = 0; i < length && i < PEOPLE; i++) {
                if (gets[i] != i) count++;
            }
            return count;
        }
    }
}
