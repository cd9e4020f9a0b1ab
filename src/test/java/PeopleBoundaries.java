/** Boundary cases of PEOPLE, YEARS and the tape, sentence by sentence: promises 1 to 4 and 8 to 10. */
public final class PeopleBoundaries extends Sentences {
    public static void main(String[] args) {
        newObject();
        people();
        coins();
        years();
        yearNumbers();
        yearPeople();
        yearToldAnew();
        tape();
        tapeBytes();
        hands();
        yearAnswers();
        personAnswers();
        yearsAnswers();
        end();
    }

    private static void newObject() {
        says("NONE = -1");
        due("NONE", YearTrade.NONE, -1);
        says("No PEOPLE, YEARS, LAW; THE SEED 1.");
        for (int what = 0; what <= 8; what++) count(what, what == 4 ? 1 : 0);
        for (int p = 0; p < 8; p++) personIs(p, 0, -1);
        for (int y = 0; y < 40; y++) yearIs(y, 0, -1);
        says("THE LAW: (none at first)", 5, 5);
        year(0, 0, 0);
        due("worth", x.worth(0, 0), 0);
        due("may", x.may(0, 1, 0), 1);
        says("TODAY (0 at first)", 5);
        year(0, 0, 0);
        worth("t+1", 0, 0, 1);
        says("(two objects are two)", 5);
        YearTrade other = new YearTrade();
        other.seed(9);
        other.feed(1, 1, 1, 1, 1);
        count(4, 1);
        count(3, 0);
        due("people of the other one", other.count(0), 0);
    }

    private static void people() {
        says("PEOPLE 0 to 7");
        no("-1", x.person(-1, 0));
        no("8", x.person(8, 0));
        no("32, whose bit is that of 0", x.person(32, 0));
        no("LOW", x.person(LOW, 0));
        no("HIGH", x.person(HIGH, 0));
        count(0, 0);
        for (int p = 0; p <= 7; p++) {
            yes("" + p, x.person(p, p));
            count(0, (2 << p) - 1);
        }
        for (int p = 0; p <= 7; p++) personIs(p, 0, p);
    }

    private static void coins() {
        says("COINS (0 to 99999)");
        no("-1", x.person(0, -1));
        no("100000", x.person(0, 100000));
        no("LOW", x.person(0, LOW));
        no("HIGH", x.person(0, HIGH));
        count(0, 0);
        yes("0", x.person(0, 0));
        personIs(0, 0, 0);
        yes("99999", x.person(0, 99999));
        personIs(0, 0, 99999);
        says("other COINS for one that is told", 10, 10);
        year(0, 0, 0);
        deals("0a]b3", 1);
        yes("other coins", x.person(0, 4));
        personIs(0, 0, 4);
        personIs(0, 1, 1);
        yearIs(0, 7, 1);
        personIs(1, 0, 7);
        count(0, 3);
        says("false: no such ones (the COINS stay)", 10);
        no("100000", x.person(0, 100000));
        no("-1", x.person(0, -1));
        personIs(0, 0, 10);
    }

    private static void years() {
        says("YEARS 0 to 39", 0);
        no("-1", x.year(-1, 0, 0, 0, 0, false, 0));
        no("40", x.year(40, 0, 0, 0, 0, false, 0));
        no("64, whose bit is that of 0", x.year(64, 0, 0, 0, 0, false, 0));
        no("LOW", x.year(LOW, 0, 0, 0, 0, false, 0));
        no("HIGH", x.year(HIGH, 0, 0, 0, 0, false, 0));
        count(1, 0);
        for (int y = 0; y < 40; y++) {
            year(y, 99 - y, 0);
            count(1, y + 1);
        }
        for (int y = 0; y < 40; y++) yearIs(y, 0, 99 - y);
    }

    private static void yearNumbers() {
        says("a DATE (0 to 99)", 0);
        no("-1", x.year(0, -1, 0, 0, 0, false, 0));
        no("100", x.year(0, 100, 0, 0, 0, false, 0));
        yes("0", x.year(0, 0, 0, 0, 0, false, 0));
        yearIs(0, 0, 0);
        yes("99", x.year(0, 99, 0, 0, 0, false, 0));
        yearIs(0, 0, 99);
        says("SKILLS (12 bits)", 0);
        no("-1", x.year(0, 0, 0, -1, 0, false, 0));
        no("4096", x.year(0, 0, 0, 4096, 0, false, 0));
        no("LOW", x.year(0, 0, 0, LOW, 0, false, 0));
        yes("4095", x.year(0, 0, 0, 4095, 0, false, 0));
        yearIs(0, 2, 4095);
        yes("0", x.year(0, 0, 0, 0, 0, false, 0));
        yearIs(0, 2, 0);
        says("a MARK (0 to 9)", 0);
        no("-1", x.year(0, 0, 0, 0, 0, false, -1));
        no("10", x.year(0, 0, 0, 0, 0, false, 10));
        yes("0", x.year(0, 0, 0, 0, 0, false, 0));
        yearIs(0, 5, 0);
        yes("9", x.year(0, 0, 0, 0, 0, false, 9));
        yearIs(0, 5, 9);
        says("a DEED or none", 0);
        yes("a deed", x.year(0, 0, 0, 0, 0, true, 0));
        yes("none", x.year(39, 0, 0, 0, 0, false, 0));
        yearIs(0, 4, 1);
        yearIs(39, 4, 0);
        yes("none", x.year(0, 0, 0, 0, 0, false, 0));
        yes("a deed", x.year(39, 0, 0, 0, 0, true, 0));
        yearIs(0, 4, 0);
        yearIs(39, 4, 1);
    }

    private static void yearPeople() {
        says("MET (8 bits, of PEOPLE)", 0, 0, 0, 0, 0, 0, 0, 0);
        no("-1", x.year(0, 0, 0, 0, -1, false, 0));
        no("256", x.year(0, 0, 0, 0, 256, false, 0));
        no("LOW", x.year(0, 0, 0, 0, LOW, false, 0));
        yes("all others", x.year(0, 0, 0, 0, 254, false, 0));
        yearIs(0, 3, 254);
        yes("nobody", x.year(0, 0, 0, 0, 0, false, 0));
        yearIs(0, 3, 0);
        says("the LIVER is not told", 0, 0);
        for (int liver : new int[] {-1, 2, 7, 8, 32, LOW, HIGH}) no("" + liver, x.year(0, 0, liver, 0, 0, false, 0));
        count(1, 0);
        yes("1", x.year(0, 0, 1, 0, 0, false, 0));
        yearIs(0, 1, 1);
        says("MET has it itself", 0, 0, 0);
        for (int p = 0; p < 3; p++) {
            no("itself alone", x.year(0, 0, p, 0, 1 << p, false, 0));
            no("itself, too", x.year(0, 0, p, 0, 7, false, 0));
            yes("the others", x.year(0, 0, p, 0, 7 & ~(1 << p), false, 0));
        }
        says("MET has one that is not told", 0, 0);
        no("2", x.year(0, 0, 0, 0, 4, false, 0));
        no("1 and 2", x.year(0, 0, 0, 0, 6, false, 0));
        no("7", x.year(0, 0, 0, 0, 128, false, 0));
        yes("1", x.year(0, 0, 0, 0, 2, false, 0));
        says("an OWNER (its LIVER at first), HANDS (the LIVER first)", 0, 0, 0);
        year(5, 0, 2);
        yearIs(5, 6, 2);
        yearIs(5, 9, 1);
        yearIs(5, 20, 2);
        yearIs(5, 7, -2);
        yearIs(5, 8, 0);
    }

    private static void yearToldAnew() {
        says("told anew: its OWNER is its LIVER", 9, 9, 9);
        year(0, 1, 0);
        deals("0a=b", 1);
        year(0, 1, 2);
        yearIs(0, 6, 2);
        personIs(1, 1, 0);
        yearIs(0, 20, 2);
        yearIs(0, 9, 1);
        personIs(1, 3, 0);
        says("told anew: it is not pawned", 9, 9, 9);
        year(0, 1, 0);
        deals("0a]b4", 1);
        year(0, 1, 0);
        yearIs(0, 7, -2);
        yearIs(0, 8, 0);
        count(6, 0);
        personIs(1, 4, 0);
        deals("0a[b;0a=c", 1);
        says("A YEAR (told anew): true, in place of the one before", 9, 9);
        yes("one", x.year(3, 10, 0, 15, 2, true, 7));
        yes("another one", x.year(3, 11, 1, 16, 1, false, 8));
        int[] others = {11, 1, 16, 1, 0, 8, 1, -2, 0, 1};
        for (int what = 0; what < 10; what++) yearIs(3, what, others[what]);
        count(1, 1);
        says("false (the one before stays as it was)", 9, 9);
        yes("one", x.year(3, 10, 0, 15, 2, true, 7));
        deals("3a]b1", 1);
        no("the liver is not told", x.year(3, 11, 2, 16, 1, false, 8));
        no("met itself", x.year(3, 11, 1, 16, 2, false, 8));
        no("a mark", x.year(3, 11, 1, 16, 1, false, 10));
        int[] still = {10, 0, 15, 2, 1, 7, 0, 1, 1, 1};
        for (int what = 0; what < 10; what++) yearIs(3, what, still[what]);
    }

    private static void tape() {
        says("how many it has; NONE if that would be more than 260");
        for (int i = 1; i <= 13; i++) {
            due("feed " + i, x.feed(i, i, i, i, i), 20 * i);
            count(3, 20 * i);
        }
        due("the 14th", x.feed(0, 0, 0, 0, 0), -1);
        count(3, 260);
        due("once more", x.feed(0, 0, 0, 0, 0), -1);
        count(3, 260);
        says("NONE (the tape is as it was)");
        text("n(1=2)");
        fill(12);
        due("full", x.feed(-1, -1, -1, -1, -1), -1);
        due("the first bytes", x.law(6), 1);
        count(3, 0);
        due("there is room again", x.feed(0, 0, 0, 0, 0), 20);
        says("Twenty bytes come behind the tape", 0);
        year(0, 0, 0);
        due("twenty", x.feed(0x76313131, 0x2b323232, 0x2b333333, 0x2d343434, 0x2b353535), 20);
        due("forty", x.feed(0x28313131, 0x3d313131, 0x29000000, 0, 0), 40);
        due("v111+222+333-444+555(111=111)", x.law(29), 1);
        due("each of them at its place", x.worth(0, 0), 777);
    }

    private static void tapeBytes() {
        says("the highest of each int first");
        x.feed(0x6e28313d, 0x31297a7a, 0, 0, 0);
        due("n(1=1)", x.law(6), 1);
        x.feed(0x3d31286e, 0x7a7a2931, 0, 0, 0);
        due("=1(n", x.law(6), -1000);
        says("bytes (0 to 255)");
        due("255", x.law(bytes(255)), -1000);
        due("n + 256", x.law(bytes('n' + 128)), -1000);
        due("n, 128 + (", x.law(bytes('n', 128 + '(')), -1001);
        due("n, 0", x.law(bytes('n', 0)), -1001);
        x.feed(-1, -1, -1, -1, -1);
        due("the number -1", x.check(1), 0);
        x.feed(0, 0, 0, 0, 0);
        due("five numbers 0", x.check(5), -1);
    }

    private static void hands() {
        says("HANDS: those who have had it, one behind the other", 0, 0, 0);
        year(0, 0, 2);
        deals("0c=a;0a=c;0c=b", 3);
        int[] row = {2, 0, 2, 1};
        yearIs(0, 9, 4);
        for (int k = 0; k < 4; k++) yearIs(0, 20 + k, row[k]);
        yearIs(0, 24, -1);
        says("the first 16 alone are remembered", 0, 0, 0);
        year(39, 0, 0);
        for (int i = 1; i < 15; i++) {
            deals(i % 2 == 1 ? "39a=b" : "39b=a", 1);
            yearIs(39, 9, i + 1);
        }
        deals("39a=c", 1);
        yearIs(39, 9, 16);
        yearIs(39, 35, 2);
        personIs(2, 3, 1);
        deals("39c=b;39b=a;39a=c;39c=b", 4);
        yearIs(39, 9, 16);
        yearIs(39, 35, 2);
        yearIs(39, 36, -1);
        yearIs(39, 6, 1);
        for (int k = 0; k < 15; k++) yearIs(39, 20 + k, k % 2);
        says("(the 17th is OWNER, and has not HAD it)", 0, 0, 0);
        year(39, 0, 0);
        deals("39a=b;39b=a;39a=b;39b=a;39a=b;39b=a;39a=b;39b=a", 8);
        deals("39a=b;39b=a;39a=b;39b=a;39a=b;39b=a;39a=b;39b=c", 8);
        yearIs(39, 6, 2);
        personIs(2, 1, 1);
        personIs(2, 3, 0);
        due("has had, high", x.years(2, 3), 0);
    }

    private static void yearAnswers() {
        says("Of a told YEAR", 7, 8, 9);
        yes("a year", x.year(4, 55, 1, 33, 5, true, 6));
        int[] fresh = {55, 1, 33, 5, 1, 6, 1, -2, 0, 1};
        for (int what = 0; what < 10; what++) yearIs(4, what, fresh[what]);
        deals("4b=a;4a]c9", 2);
        int[] later = {55, 1, 33, 5, 1, 6, 0, 2, 9, 2};
        for (int what = 0; what < 10; what++) yearIs(4, what, later[what]);
        says("7 who holds it (-2: it is not pawned), 8 what must be paid to fetch it (0)", 7, 8);
        year(0, 0, 0);
        deals("0a]b0", 1);
        yearIs(0, 7, 1);
        yearIs(0, 8, 0);
        deals("0a[b", 1);
        yearIs(0, 7, -2);
        deals("0a]b8;0a[b", 2);
        yearIs(0, 7, -2);
        yearIs(0, 8, 0);
        says("20 + k HANDS at place k; NONE for others", 7, 8);
        year(0, 0, 0);
        deals("0a=b", 1);
        yearIs(0, 20, 0);
        yearIs(0, 21, 1);
        for (int what : new int[] {-1, 10, 11, 18, 19, 22, 35, 36, 59, 60, LOW, LOW + 20, LOW + 21, HIGH}) yearIs(0, what, -1);
        says("NONE (of a YEAR that is not told, none of the 40)", 7);
        year(0, 0, 0);
        year(39, 0, 0);
        for (int y : new int[] {-1, 1, 38, 40, 64, LOW, HIGH}) {
            yearIs(y, 0, -1);
            yearIs(y, 7, -1);
            yearIs(y, 20, -1);
        }
        yearIs(39, 0, 0);
    }

    private static void personAnswers() {
        says("Of a told PERSON, what 0 COINS, 1 AGE, 2 what it KNOWS, 3 how many YEARS it has HAD, 4 how many it holds", 5, 6);
        skilled(0, 0, 5);
        skilled(39, 0, 2048);
        skilled(20, 1, 4);
        deals("0a]b0;20b=a", 2);
        int[] a = {5, 3, 2053, 3, 0};
        int[] b = {6, 0, 0, 1, 1};
        for (int what = 0; what < 5; what++) {
            personIs(0, what, a[what]);
            personIs(1, what, b[what]);
        }
        says("NONE for others", 5, 6);
        for (int what : new int[] {-1, 5, 20, LOW, HIGH}) personIs(0, what, -1);
        for (int p : new int[] {-1, 2, 7, 8, 32, LOW, HIGH}) {
            for (int what = 0; what < 5; what++) personIs(p, what, -1);
        }
        says("AGE: (a pawned one is its pawner's still)", 5, 6);
        year(0, 0, 0);
        deals("0a]b6", 1);
        personIs(0, 1, 1);
        personIs(1, 1, 0);
        says("KNOWS: SKILLS of all YEARS one owns (a pawned one, too; not what one had)", 5, 6);
        skilled(0, 0, 1);
        skilled(1, 0, 6);
        deals("0a]b0;1a=b", 2);
        personIs(0, 2, 1);
        personIs(1, 2, 6);
        says("HAD: YEARS in whose HANDS one is (each once; what one holds in pawn is not in one's HANDS)", 5, 6);
        year(0, 0, 0);
        year(1, 0, 0);
        deals("0a=b;0b=a;0a=b;1a]b0", 4);
        personIs(0, 3, 2);
        personIs(1, 3, 1);
        says("4 how many it holds that are pawned", 0, 0, 0);
        for (int y : new int[] {0, 20, 39}) year(y, 0, 0);
        deals("0a]b0;20a]c0;39a]b0", 3);
        personIs(0, 4, 0);
        personIs(1, 4, 2);
        personIs(2, 4, 1);
    }

    private static void yearsAnswers() {
        says("by numbers 0 to 19, 20 to 39 (bits)", 0, 0);
        for (int y = 0; y < 40; y += 3) year(y, 0, 0);
        for (int y : new int[] {19, 20, 38}) year(y, 0, 1);
        deals("0a=b;39a=b", 2);
        int low = 0;
        int high = 0;
        for (int y = 3; y < 20; y += 3) low |= 1 << y;
        for (int y = 21; y < 39; y += 3) high |= 1 << y - 20;
        int[] a = {low, high, low | 1, high | 1 << 19};
        int[] b = {1 | 1 << 19, 1 | 1 << 18 | 1 << 19, 1 | 1 << 19, 1 | 1 << 18 | 1 << 19};
        for (int what = 0; what < 4; what++) {
            due("a, " + what, x.years(0, what), a[what]);
            due("b, " + what, x.years(1, what), b[what]);
        }
        says("(all forty)", 0);
        for (int y = 0; y < 40; y++) year(y, 0, 0);
        for (int what = 0; what < 4; what++) due("what " + what, x.years(0, what), (1 << 20) - 1);
        says("NONE: no such ones", 0);
        for (int what : new int[] {-1, 4, LOW, HIGH}) due("what " + what, x.years(0, what), -1);
        for (int p : new int[] {-1, 1, 7, 8, 32, LOW, HIGH}) due("person " + p, x.years(p, 0), -1);
        due("none owned", x.years(0, 0), 0);
        due("none had", x.years(0, 3), 0);
    }
}
