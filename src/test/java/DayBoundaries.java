/** Boundary cases of DAYS, of what is kept, checked and counted, and of refused calls: promises 22, 23 and 28 to 32. */
public final class DayBoundaries extends Sentences {
    public static void main(String[] args) {
        daysBounds();
        pawnsGrow();
        pawnsFall();
        pawnsInOrder();
        fortunes();
        fortunesInOrder();
        draws();
        triedBounds();
        triedAsDone();
        seeds();
        keptAll();
        keptEight();
        undone();
        checkBounds();
        checkNumbers();
        counts();
        countCoinsAndFalls();
        refusedChangesNothing();
        refusedTapeStays();
        answeredTapeIsEmpty();
        end();
    }

    private static void daysBounds() {
        says("DAYS (1 to 100) go by; NONE: no such n", 5);
        law("f10(1=1);g1(1=1)", 2);
        for (int n : new int[] {0, -1, 101, LOW, HIGH}) due("n " + n, x.days(n), -1);
        count(5, 0);
        count(4, 1);
        personIs(0, 0, 5);
        days(1, 0);
        count(5, 1);
        personIs(0, 0, 6);
        days(100, 0);
        count(5, 101);
        personIs(0, 0, 106);
        says("TODAY is one more (behind pawns and fortunes)", 0, 99);
        year(0, 0, 0);
        deals("0a]b9", 1);
        law("i1(t=0);f10(t=0);g1(t=0)", 3);
        days(2, 0);
        yearIs(0, 8, 10);
        personIs(0, 0, 10);
        count(5, 2);
        says("(nobody, no pawns)");
        days(7, 0);
        count(5, 7);
        count(4, 1);
    }

    private static void pawnsGrow() {
        says("each pawn grows by i (asked then)", 0, 99999);
        year(0, 0, 0);
        year(20, 0, 0);
        year(39, 0, 0);
        deals("0a]b500;39a]b600", 2);
        law("i7(y=0);i3+t(1=1)", 2);
        days(1, 0);
        yearIs(0, 8, 507);
        yearIs(39, 8, 603);
        yearIs(20, 8, 0);
        days(2, 0);
        yearIs(0, 8, 521);
        yearIs(39, 8, 612);
        says("(99999 at most)", 0, 0);
        year(0, 0, 0);
        deals("0a]b0", 1);
        law("i99(1=1)", 1);
        for (int i = 0; i < 10; i++) days(100, 0);
        yearIs(0, 8, 99000);
        days(10, 0);
        yearIs(0, 8, 99990);
        days(1, 0);
        yearIs(0, 8, 99999);
        days(1, 0);
        yearIs(0, 8, 99999);
        x.person(0, 99998);
        deals("0a[b", 0);
        x.person(0, 99999);
        deals("0a[b", 1);
        personIs(1, 0, 99999);
        says("(what is not pawned does not grow; what is fetched no more)", 9, 99);
        year(0, 0, 0);
        law("i9(1=1)", 1);
        days(1, 0);
        yearIs(0, 8, 0);
        deals("0a]b50;0a[b", 2);
        days(1, 0);
        yearIs(0, 8, 0);
        count(6, 0);
    }

    private static void pawnsFall() {
        says("one that has grown to twice what was lent or more has fallen", 0, 999);
        for (int y = 0; y < 3; y++) year(y, 0, 0);
        deals("0a]b10;1a]b10;2a]b10", 3);
        law("i9(y=0);i10(y=1);i11(y=2)", 3);
        days(1, 2);
        yearIs(0, 7, 1);
        yearIs(0, 8, 19);
        yearIs(1, 7, -2);
        yearIs(2, 7, -2);
        count(6, 1);
        count(8, 2);
        says("(not ahead of that day)", 0, 999);
        year(0, 0, 0);
        deals("0a]b10", 1);
        law("i1(1=1)", 1);
        days(9, 0);
        yearIs(0, 8, 19);
        days(1, 1);
        says("(and lent is above 0)", 0, 999);
        year(0, 0, 0);
        year(1, 0, 0);
        deals("0a]b0;1a]b1", 2);
        days(1, 0);
        law("i1(1=1)", 1);
        days(1, 1);
        yearIs(0, 7, 1);
        yearIs(0, 8, 1);
        yearIs(1, 6, 1);
        days(100, 0);
        yearIs(0, 7, 1);
        yearIs(0, 8, 101);
        says("the YEAR goes to who holds it (its OWNER, and behind its HANDS)", 0, 999, 0);
        year(0, 0, 0);
        deals("0a=c;0c]b10", 2);
        law("i10(1=1)", 1);
        days(1, 1);
        yearIs(0, 6, 1);
        yearIs(0, 7, -2);
        yearIs(0, 8, 0);
        yearIs(0, 9, 3);
        yearIs(0, 22, 1);
        personIs(1, 1, 1);
        personIs(1, 4, 0);
        personIs(1, 0, 989);
        personIs(2, 0, 10);
        deals("0c[b", 0);
        deals("0b=a", 1);
        says("(n is not asked when a pawn falls)", 0, 999);
        year(0, 0, 0);
        deals("0a]b10", 1);
        law("i10(1=1);n(1=1)", 2);
        days(1, 1);
        says("(the highest: 9999 lent)", 0, 9999);
        year(0, 0, 0);
        deals("0a]b9999", 1);
        law("i99(1=1)", 1);
        days(100, 0);
        yearIs(0, 8, 19899);
        days(1, 1);
    }

    private static void pawnsInOrder() {
        says("each pawn, by YEARS (one that fell is not its pawner's when the next one is asked)", 0, 999);
        for (int y = 0; y < 3; y++) year(y, 0, 0);
        deals("0a]b10;1a]b10;2a]b50", 3);
        law("i10(y=1);ia(1=1)", 2);
        days(1, 1);
        yearIs(0, 8, 13);
        yearIs(2, 8, 52);
        says("how many pawns fall (in all DAYS)", 0, 999);
        for (int y = 0; y < 40; y++) year(y, 0, 0);
        for (int y = 0; y < 40; y += 4) deals(y + "a]b1;" + (y + 1) + "a]b2;" + (y + 2) + "a]b3;" + (y + 3) + "a]b4", 4);
        law("i1(1=1)", 1);
        days(3, 30);
        count(6, 10);
        days(1, 10);
        count(8, 40);
        personIs(1, 1, 40);
        says("(what falls is dealt in again, and may fall again)", 9, 9);
        year(0, 0, 0);
        law("i5(1=1)", 1);
        deals("0a]b5", 1);
        days(1, 1);
        deals("0b]a5", 1);
        days(1, 1);
        yearIs(0, 6, 0);
        yearIs(0, 9, 3);
        count(8, 2);
    }

    private static void fortunes() {
        says("with a DRAW, below f: COINS are g more", 5);
        law("f4(1=1);g7(1=1)", 2);
        x.seed(seedOf(3));
        days(1, 0);
        personIs(0, 0, 12);
        x.seed(seedOf(4));
        days(1, 0);
        personIs(0, 0, 12);
        says("(99999 at most)", 99990, 99991);
        law("f10(1=1);g9(1=1)", 2);
        days(1, 0);
        personIs(0, 0, 99999);
        personIs(1, 0, 99999);
        days(1, 0);
        personIs(0, 0, 99999);
        says("Then (behind all pawns): a is AGE, c COINS as they are then", 0, 50, 0);
        year(0, 0, 0);
        year(1, 0, 0);
        deals("0a]b10", 1);
        law("i10(1=1);f10(1=1);g100*a+c(1=1)", 3);
        days(1, 1);
        personIs(0, 0, 10 + 110);
        personIs(1, 0, 40 + 140);
        personIs(2, 0, 0);
        says("(all eight)", 0, 0, 0, 0, 0, 0, 0, 0);
        law("f10(1=1);g1+p(1=1)", 2);
        days(1, 0);
        for (int p = 0; p < 8; p++) personIs(p, 0, 1 + p);
    }

    private static void fortunesInOrder() {
        says("of each told PERSON, by numbers (one DRAW each, whatever f is)");
        x.person(6, 0);
        x.person(2, 0);
        long first = (25173 + 13849) % 65536;
        long second = (25173 * first + 13849) % 65536;
        law("f10(p=2);g1(1=1)", 2);
        days(1, 0);
        count(4, (int) second);
        says("(the lower number draws first)");
        x.person(6, 0);
        x.person(2, 0);
        int seed = 0;
        while (draw(seed, 1) >= 5 || draw(seed, 2) < 5) seed++;
        law("f5(1=1);g1(1=1)", 2);
        x.seed(seed);
        days(1, 0);
        personIs(2, 0, 1);
        personIs(6, 0, 0);
        while (draw(seed, 1) < 5 || draw(seed, 2) >= 5) seed++;
        x.seed(seed);
        days(1, 0);
        personIs(2, 0, 1);
        personIs(6, 0, 1);
        says("(a PERSON draws without a law, too)", 0);
        days(3, 0);
        long last = 1;
        for (int i = 0; i < 3; i++) last = (25173 * last + 13849) % 65536;
        count(4, (int) last);
    }

    private static long draw(int seed, int times) {
        long at = seed;
        for (int i = 0; i < times; i++) at = (25173 * at + 13849) % 65536;
        return at % 10;
    }

    private static void draws() {
        says("X = (25173 X + 13849) modulo 65536 (X is THE SEED at first, 1)", 0);
        int[] starts = {0, 1, 2, 32767, 32768, 65534, 65535};
        count(4, 1);
        for (int start : starts) {
            x.seed(start);
            days(1, 0);
            count(4, (int) ((25173L * start + 13849) % 65536));
        }
        says("(100 DAYS, eight PEOPLE)", 0, 0, 0, 0, 0, 0, 0, 0);
        long at = 1;
        for (int i = 0; i < 800; i++) at = (25173 * at + 13849) % 65536;
        days(100, 0);
        count(4, (int) at);
        says("X modulo 10", 0);
        law("f1(1=1);g1(1=1)", 2);
        int fortunes = 0;
        for (int i = 1; i <= 100; i++) fortunes += draw(1, i) < 1 ? 1 : 0;
        days(100, 0);
        personIs(0, 0, fortunes);
    }

    private static void triedIs(int n, int what, int want) {
        due("tried " + n + " " + what, x.tried(n, what), want);
    }

    private static void triedBounds() {
        says("DAYS (1 to 100) that are tried; NONE: no such ones", 5, 6);
        for (int n : new int[] {0, -1, 101, LOW, HIGH}) triedIs(n, 0, -1);
        triedIs(1, 0, 0);
        triedIs(100, 0, 0);
        for (int what : new int[] {-1, 2, 9, 12, 17, 18, 20, 42, LOW, LOW + 10, HIGH}) triedIs(1, what, -1);
        triedIs(1, 1, 11);
        says("10 + p AGE of told PERSON p then (10, 17)");
        x.person(7, 0);
        triedIs(1, 17, 0);
        triedIs(1, 10, -1);
        year(0, 0, 7);
        triedIs(1, 17, 1);
        says("(COINS of the last of eight, too)");
        x.person(7, 5);
        law("f10(1=1);g1(1=1)", 2);
        triedIs(3, 1, 8);
        says("(of nobody)");
        triedIs(1, 0, 0);
        triedIs(1, 1, 0);
        triedIs(1, 10, -1);
    }

    private static void triedAsDone() {
        says("what 0 pawns that fall, 1 COINS of all PEOPLE then, 10 + p AGE of told PERSON p then", 0, 50);
        year(0, 0, 0);
        year(39, 0, 0);
        deals("0a]b5;39a]b20", 2);
        law("i5(1=1);f10(1=1);g1(1=1)", 3);
        int[] falls = {0, 1, 1, 1, 2, 2};
        for (int n = 1; n <= 5; n++) {
            triedIs(n, 0, falls[n]);
            triedIs(n, 1, 50 + 2 * n);
            triedIs(n, 10, n < 4 ? 1 : 0);
            triedIs(n, 11, n < 4 ? 1 : 2);
        }
        triedIs(100, 1, 250);
        says("(nothing is changed)", 0, 50);
        year(0, 0, 0);
        deals("0a]b5", 1);
        law("i5(1=1);f10(1=1);g1(1=1)", 3);
        triedIs(100, 0, 1);
        triedIs(100, 1, 250);
        triedIs(100, 11, 1);
        count(4, 1);
        count(5, 0);
        count(6, 1);
        count(7, 50);
        count(8, 0);
        yearIs(0, 6, 0);
        yearIs(0, 8, 5);
        yearIs(0, 9, 1);
        days(1, 1);
        says("(DAYS that go by answer as those that are tried)", 0, 50);
        year(0, 0, 0);
        deals("0a]b5", 1);
        law("i1(1=1);f5(1=1);g3(1=1)", 3);
        int coins = x.tried(60, 1);
        triedIs(60, 0, 1);
        days(60, 1);
        count(7, coins);
    }

    private static void seeds() {
        says("THE SEED (0 to 65535; X, too): true; false: no such number", 0);
        for (int seed : new int[] {0, 1, 32768, 65535}) {
            yes("" + seed, x.seed(seed));
            count(4, seed);
        }
        for (int seed : new int[] {-1, 65536, 65537, LOW, HIGH}) {
            no("" + seed, x.seed(seed));
            count(4, 65535);
        }
    }

    private static void keptAll() {
        says("keep: how many YEARS are told", 0);
        due("none", x.keep(), 0);
        for (int y = 0; y < 40; y++) {
            year(y, 0, 0);
            if (y % 13 == 0) due("keep", x.keep(), y + 1);
        }
        due("all", x.keep(), 40);
        says("KEPT: PEOPLE, YEARS, pawns, TODAY, X; UNDONE: as they were KEPT last", 10, 20, 30);
        yes("year", x.year(39, 99, 2, 4095, 3, true, 9));
        yes("year", x.year(0, 9, 0, 5, 6, false, 1));
        deals("39c>b1;0a]c3", 2);
        law("i1(1=1)", 1);
        days(2, 0);
        x.seed(77);
        due("keep", x.keep(), 2);
        yes("person", x.person(7, 7));
        yes("person", x.person(0, 0));
        yes("year", x.year(39, 1, 7, 1, 0, false, 2));
        yes("year", x.year(0, 2, 7, 2, 1, true, 3));
        year(20, 3, 7);
        days(5, 0);
        yes("undo", x.undo());
        count(0, 7);
        count(1, 2);
        count(4, 77);
        count(5, 2);
        count(6, 1);
        count(7, 60);
        int[] high = {99, 2, 4095, 3, 1, 9, 1, -2, 0, 2};
        int[] low = {9, 0, 5, 6, 0, 1, 0, 2, 5, 1};
        for (int what = 0; what < 10; what++) {
            yearIs(39, what, high[what]);
            yearIs(0, what, low[what]);
        }
        yearIs(39, 20, 2);
        yearIs(39, 21, 1);
        yearIs(20, 0, -1);
        personIs(0, 0, 13);
        personIs(7, 0, -1);
        days(1, 1);
    }

    private static void keptEight() {
        says("KEPT: PEOPLE, YEARS (all eight, all forty)", 1, 2, 3, 4, 5, 6, 7, 8);
        for (int y = 0; y < 40; y++) yes("year", x.year(y, y, y % 8, y, 0, y % 2 == 0, y % 10));
        due("keep", x.keep(), 40);
        for (int p = 0; p < 8; p++) x.person(p, 99);
        for (int y = 0; y < 40; y++) yes("year", x.year(y, 99 - y, (y + 1) % 8, 99 - y, 0, y % 2 == 1, (y + 1) % 10));
        yes("undo", x.undo());
        for (int p = 0; p < 8; p++) personIs(p, 0, 1 + p);
        for (int y = 0; y < 40; y++) {
            yearIs(y, 0, y);
            yearIs(y, 1, y % 8);
            yearIs(y, 2, y);
            yearIs(y, 4, (y + 1) % 2);
            yearIs(y, 5, y % 10);
            yearIs(y, 6, y % 8);
            yearIs(y, 20, y % 8);
        }
    }

    private static void undone() {
        says("false: none was KEPT (nothing is changed)", 5);
        year(0, 0, 0);
        no("undo", x.undo());
        count(0, 1);
        count(1, 1);
        says("as they were KEPT last", 5);
        x.keep();
        x.person(0, 6);
        x.keep();
        x.person(0, 7);
        yes("undo", x.undo());
        personIs(0, 0, 6);
        x.person(0, 8);
        yes("once more", x.undo());
        personIs(0, 0, 6);
        yes("and once more", x.undo());
        personIs(0, 0, 6);
        says("(an object KEPT new is UNDONE new)");
        x.keep();
        x.person(0, 6);
        year(0, 0, 0);
        x.seed(5);
        days(1, 0);
        yes("undo", x.undo());
        for (int what = 0; what <= 8; what++) count(what, what == 4 ? 1 : 0);
        personIs(0, 0, -1);
        yearIs(0, 0, -1);
        says("(the LAW, the tape are not KEPT)", 0);
        year(0, 0, 0);
        law("v1(1=1)", 1);
        text("aa");
        x.keep();
        due("law", x.law(2), -1000);
        law("v2(1=1);n(1=1)", 2);
        text("v3(1=1)");
        fill(1);
        yes("undo", x.undo());
        count(2, 2);
        count(3, 40);
        due("worth", x.worth(0, 0), 2);
        says("(a pawn that was KEPT grows on, and from what was lent)", 0, 99);
        year(0, 0, 0);
        deals("0a]b4", 1);
        x.keep();
        deals("0a[b;0a]b50", 2);
        yes("undo", x.undo());
        law("i3(1=1)", 1);
        days(1, 0);
        yearIs(0, 8, 7);
        days(1, 1);
    }

    private static void checkIs(int want, int... owners) {
        int[] row = new int[4 * owners.length];
        for (int i = 0; i < row.length; i++) row[i] = owners[i / 4] >>> 24 - 8 * (i % 4) & 255;
        due("check of " + owners.length, x.check(bytes(row) / 4), want);
    }

    private static void checkBounds() {
        says("check: (0 to 40); -2: no such n (the tape stays)");
        fill(13);
        for (int n : new int[] {-1, 41, 65, LOW, HIGH, 1 << 30}) due("n " + n, x.check(n), -2);
        count(3, 260);
        due("40", x.check(40), -1);
        count(3, 0);
        says("-2: it has not so many (the tape stays)");
        due("of an empty tape", x.check(1), -2);
        fill(1);
        due("6", x.check(6), -2);
        due("40", x.check(40), -2);
        count(3, 20);
        due("5", x.check(5), -1);
        count(3, 0);
        says("(0; empty then)");
        due("of an empty tape", x.check(0), -1);
        x.feed(1, 1, 1, 1, 1);
        due("0", x.check(0), -1);
        count(3, 0);
        says("by the first n numbers of the tape (empty then)", 0, 0);
        year(0, 0, 1);
        x.feed(1, 9, 9, 9, 9);
        due("1", x.check(1), -1);
        count(3, 0);
        x.feed(1, 9, 9, 9, 9);
        due("2", x.check(2), 1);
        count(3, 0);
    }

    private static void checkNumbers() {
        says("(four bytes each)", 0, 0, 0);
        year(0, 0, 1);
        year(2, 0, 2);
        checkIs(-1, 1, 0, 2);
        for (int shift = 8; shift < 32; shift++) checkIs(2, 1, 0, 2 | 1 << shift);
        checkIs(0, -1, 0, 2);
        checkIs(0, LOW, 0, 2);
        says("CHECK by OWNERS of YEARS: right, or the first number that is not so", 0, 0, 0, 0, 0, 0, 0, 0);
        for (int y = 0; y < 40; y++) year(y, 0, y % 8);
        int[] owners = new int[40];
        for (int y = 0; y < 40; y++) owners[y] = y % 8;
        checkIs(-1, owners);
        owners[39] = 0;
        checkIs(39, owners);
        owners[20] = 7;
        checkIs(20, owners);
        owners[0] = 1;
        checkIs(0, owners);
        says("(the OWNER, not the LIVER, not who holds it)", 0, 0, 0);
        year(0, 0, 0);
        deals("0a=b;0b]c0", 2);
        checkIs(-1, 1);
        checkIs(0, 0);
        checkIs(0, 2);
        says("(of YEARS that are not told 0)", 0, 0);
        year(1, 0, 1);
        checkIs(-1, 0, 1, 0);
        checkIs(0, 1, 1, 0);
        checkIs(2, 0, 1, 1);
        checkIs(0, -1, 1, 0);
    }

    private static void counts() {
        says("0 told PEOPLE (bits), 1 told YEARS (how many)");
        x.person(7, 0);
        x.person(0, 0);
        count(0, 129);
        year(39, 0, 7);
        year(0, 0, 7);
        year(39, 0, 0);
        count(1, 2);
        says("2 CLAUSES, 3 bytes of the tape");
        law("n(1=1);n(1=1)", 2);
        fill(2);
        count(2, 2);
        count(3, 40);
        says("4 X, 5 TODAY", 0);
        x.seed(65535);
        count(4, 65535);
        days(3, 0);
        count(5, 3);
        says("6 pawns", 0, 9);
        year(0, 0, 0);
        year(39, 0, 0);
        deals("0a]b0;39a]b1", 2);
        count(6, 2);
        deals("0a[b", 1);
        count(6, 1);
        says("count: NONE for others", 5);
        for (int what : new int[] {-1, 9, 10, LOW, HIGH}) count(what, -1);
    }

    private static void countCoinsAndFalls() {
        says("7 COINS of all PEOPLE", 99999, 99999, 99999, 99999, 99999, 99999, 99999, 99999);
        count(7, 799992);
        x.person(3, 0);
        count(7, 699993);
        says("8 fallen pawns so far", 0, 99);
        year(0, 0, 0);
        year(1, 0, 0);
        deals("0a]b1;1a]b2", 2);
        law("i1(1=1)", 1);
        days(1, 1);
        count(8, 1);
        days(1, 1);
        count(8, 2);
        days(9, 0);
        count(8, 2);
        says("8 fallen pawns so far (not undone)", 0, 99);
        year(0, 0, 0);
        deals("0a]b1", 1);
        law("i1(1=1)", 1);
        x.keep();
        days(1, 1);
        yes("undo", x.undo());
        count(8, 1);
        count(6, 1);
        days(1, 1);
        count(8, 2);
    }

    /** All that can be seen of two PEOPLE and three YEARS. */
    private static String seen() {
        StringBuilder all = new StringBuilder();
        for (int what = 0; what <= 8; what++) all.append(x.count(what)).append(' ');
        for (int y : new int[] {0, 1, 39}) {
            for (int what = 0; what <= 9; what++) all.append(x.yearIs(y, what)).append(' ');
            for (int what = 20; what <= 22; what++) all.append(x.yearIs(y, what)).append(' ');
        }
        for (int p = 0; p < 3; p++) {
            for (int what = 0; what <= 4; what++) all.append(x.personIs(p, what)).append(' ');
        }
        return all.append(x.worth(0, 0)).append(' ').append(x.may(0, 1, 3)).toString();
    }

    private static void refusedChangesNothing() {
        says("A call that is refused (NONE, false) changes nothing", 10, 20);
        yes("year", x.year(0, 5, 0, 3, 2, true, 4));
        yes("year", x.year(39, 6, 1, 5, 0, false, 6));
        deals("0a>b1;39b]a2", 2);
        law("v7(1=1);n(z=3);i1(1=1)", 3);
        days(1, 0);
        text("0b=a");
        String before = seen();
        no("person", x.person(8, 1) || x.person(-1, 1) || x.person(0, -1) || x.person(2, 100000));
        no("year", x.year(40, 5, 0, 3, 2, true, 4) || x.year(0, 100, 0, 3, 2, true, 4) || x.year(0, 5, 2, 3, 2, true, 4));
        no("year", x.year(1, 5, 0, 4096, 2, true, 4) || x.year(0, 5, 1, 3, 2, true, 4) || x.year(0, 5, 1, 3, 4, true, 4));
        no("year", x.year(1, 5, 0, 3, 2, true, 10) || x.year(-1, 5, 0, 3, 2, true, 4) || x.year(1, -1, 0, 3, 2, true, 4));
        due("law", x.law(0) + x.law(21) + x.law(241), -3);
        due("deals", x.deals(0) + x.deals(21) + x.deals(161), -3);
        due("judged", x.judged(0) + x.judged(21) + x.judged(161), -3);
        due("inOrder", x.inOrder(0, -1) + x.inOrder(21, -1) + x.inOrder(161, 9), -3);
        due("sold", x.sold(0, 3, 10) + x.sold(7, 3, 10) + x.sold(-1, 3, 10), -3);
        due("ring", x.ring(0, 10) + x.ring(9, 10) + x.ring(-1, 10), -3);
        due("check", x.check(-1) + x.check(6) + x.check(41), -6);
        due("days", x.days(0) + x.days(101), -2);
        due("tried", x.tried(0, 0) + x.tried(101, 0) + x.tried(1, 2), -3);
        no("seed", x.seed(-1) || x.seed(65536));
        no("undo", x.undo());
        due("the same as before", seen().equals(before) ? 1 : 0, 1);
        says("(a question changes nothing)", 10, 20);
        yes("year", x.year(0, 5, 0, 3, 2, true, 4));
        yes("year", x.year(1, 5, 1, 5, 0, false, 6));
        law("v7(1=1);n(z=3);i1(1=1);f10(1=1);g9(1=1)", 5);
        text("0b=a");
        before = seen();
        due("worth", x.worth(0, 1), 7);
        due("may", x.may(0, 1, 3), 0);
        due("clashes", x.clashes(0), 0);
        due("givenBack", x.givenBack(0, 0, 0), 0);
        due("deeds", x.deeds(0, 2), 1);
        due("taught", x.taught(0, 4, 0), 7);
        due("share", x.share(3, 0, 0), 150);
        due("forged", x.forged(0, 1), 2);
        due("dealtIn", x.dealtIn(1), 1);
        due("tried", x.tried(100, 1), 30 + 1800);
        due("common", x.common(0, 1, 0), 1);
        due("linked", x.linked(0, 1, -1), -2);
        due("regime", x.regime(0, 0, 99), 12);
        due("years", x.years(0, 0), 1);
        due("the same as before", seen().equals(before) ? 1 : 0, 1);
    }

    private static void refusedTapeStays() {
        says("NONE: (the tape stays): what was fed is read by the next call", 0, 0);
        year(0, 0, 0);
        text("0a=b;0b=a;0a=b;0b=a;");
        due("deals", x.deals(21) + x.deals(0), -2);
        due("judged", x.judged(21) + x.judged(0), -2);
        due("inOrder", x.inOrder(21, 0) + x.inOrder(0, 0), -2);
        due("law", x.law(21) + x.law(0), -2);
        due("sold", x.sold(0, 3, 10) + x.sold(7, 3, 10), -2);
        due("ring", x.ring(0, 10) + x.ring(9, 10), -2);
        due("check", x.check(6) + x.check(-1), -4);
        count(3, 20);
        due("deals", x.deals(14), 3);
        yearIs(0, 6, 1);
    }

    private static void answeredTapeIsEmpty() {
        says("(empty then, whatever is answered)", 0, 0);
        year(0, 0, 0);
        text("0b=a;0a=a");
        due("a FAULT", x.deals(9), -6008);
        count(3, 0);
        text("0b=a");
        due("the first ACT can't be", x.judged(4), 0);
        count(3, 0);
        text("0b=a");
        due("a FAULT", x.judged(1), -1001);
        count(3, 0);
        text("0b=a");
        due("-2", x.inOrder(4, 0), -2);
        count(3, 0);
        text("0b=a");
        due("-3", x.inOrder(4, 1), -3);
        count(3, 0);
        text("0b=a");
        due("a FAULT", x.inOrder(3, 1), -1003);
        count(3, 0);
        text("n(1=1)");
        due("a FAULT", x.law(5), -1005);
        count(3, 0);
        x.feed(1, 0, 0, 0, 0);
        due("not so", x.check(1), 0);
        count(3, 0);
    }
}
