/** Boundary cases of YEARS SOLD AT ONCE and of A RING, sentence by sentence: promises 18 and 19. */
public final class FairBoundaries extends Sentences {
    public static void main(String[] args) {
        soldBounds();
        soldYears();
        soldPeople();
        soldPlaces();
        soldOwners();
        soldMost();
        soldRows();
        soldPayments();
        soldPaymentsOfMany();
        soldOrder();
        ringBounds();
        ringYears();
        ringPlaces();
        ringWants();
        ringRounds();
        ringOfEight();
        end();
    }

    private static void sold(int people, int what, int want, int... row) {
        due("sold " + people + " " + what, x.sold(bytes(row), people, what), want);
    }

    /** Who gets what, in the row's order. */
    private static void gets(int people, int[] row, int... want) {
        for (int i = 0; i < want.length; i++) sold(people, i, want[i], row);
    }

    private static void pays(int people, int[] row, int... want) {
        for (int p = 0; p < want.length; p++) sold(people, 20 + p, want[p], row);
    }

    private static void ring(int what, int want, int... row) {
        due("ring " + what, x.ring(bytes(row), what), want);
    }

    private static void turns(int[] row, int... want) {
        int changed = 0;
        for (int i = 0; i < want.length; i++) {
            ring(i, want[i], row);
            if (want[i] != i) changed++;
        }
        ring(10, changed, row);
    }

    private static void soldBounds() {
        says("sold: (YEARS; n 1 to 6; empty then); NONE: no such n", 0, 0, 0, 0, 0, 0, 0);
        for (int y = 0; y < 7; y++) year(y, 0, 6);
        law("v5(1=1)", 1);
        bytes(0, 1, 2, 3, 4, 5, 6);
        for (int n : new int[] {0, -1, 7, 8, 20, LOW, HIGH}) due("n " + n, x.sold(n, 63, 10), -1);
        count(3, 20);
        due("6", x.sold(6, 63, 10), 30);
        count(3, 0);
        sold(63, 10, 5, 6);
        says("NONE: it has not so many (the tape stays)", 0, 0);
        year(0, 0, 0);
        for (int n = 1; n <= 6; n++) due("of an empty tape", x.sold(n, 3, 10), -1);
        says("by the first n bytes of the tape (empty then)", 0, 0);
        year(0, 0, 0);
        bytes(0, 99);
        due("1 of 20", x.sold(1, 3, 0), 1);
        count(3, 0);
        sold(3, 10, -2, 0, 99);
        count(3, 0);
        sold(3, 9, -3, 0);
        count(3, 0);
    }

    private static void soldYears() {
        says("-2: no such YEARS", 0, 0);
        year(0, 0, 0);
        year(39, 0, 0);
        for (int y : new int[] {1, 38, 40, 64, 128, 255}) {
            sold(3, 10, -2, y);
            sold(3, 10, -2, 0, y);
            sold(3, 10, -2, y, 0);
        }
        sold(3, 10, 0, 39);
        says("-2: one twice", 0, 0);
        for (int y = 0; y < 40; y += 13) year(y, 0, 0);
        sold(3, 10, -2, 0, 0);
        sold(3, 10, -2, 39, 39);
        sold(3, 10, -2, 0, 13, 26, 39, 0);
        sold(3, 10, -2, 0, 39, 13, 26, 39);
        sold(3, 10, 0, 0, 13, 26, 39);
        says("-2: pawned", 0, 0);
        year(0, 0, 0);
        year(1, 0, 0);
        deals("1a]b0", 1);
        sold(3, 10, -2, 1);
        sold(3, 10, -2, 0, 1);
        sold(3, 10, 0, 0);
        deals("1a[b", 1);
        sold(3, 10, 0, 0, 1);
        says("(the last of six)", 0, 0);
        for (int y = 0; y < 6; y++) year(y, 0, 0);
        sold(3, 10, 0, 0, 1, 2, 3, 4, 5);
        sold(3, 10, -2, 0, 1, 2, 3, 4, 6);
        sold(3, 10, -2, 0, 1, 2, 3, 4, 5 - 1);
        deals("5a]b0", 1);
        sold(3, 10, -2, 0, 1, 2, 3, 4, 5);
    }

    private static void soldPeople() {
        says("-3: no such ones (PEOPLE, bits)", 0, 0, 0);
        year(0, 0, 0);
        for (int people : new int[] {8, 9, 128, 255, 256, 257, -1, LOW, HIGH}) sold(people, 10, -3, 0);
        for (int people = 0; people < 8; people++) sold(people, 10, 0, 0);
        says("(all eight)", 0, 0, 0, 0, 0, 0, 0, 0);
        for (int y = 0; y < 6; y++) year(y, 0, 0);
        law("v1(p=7&y=0);v1(p=6&y=1);v1(p=5&y=2);v1(p=4&y=3);v1(p=3&y=4);v1(p=2&y=5)", 6);
        sold(255, 10, 6, 0, 1, 2, 3, 4, 5);
        gets(255, new int[] {0, 1, 2, 3, 4, 5}, 7, 6, 5, 4, 3, 2);
    }

    private static void soldPlaces() {
        says("-3: no such place", 0, 0, 0);
        year(0, 0, 0);
        year(1, 0, 0);
        for (int what : new int[] {-1, 2, 5, 6, 8, 9, 11, 19, 28, 30, LOW, LOW + 20, HIGH}) sold(7, what, -3, 0, 1);
        sold(7, 0, 1, 0, 1);
        sold(7, 1, 2, 0, 1);
        sold(7, 1, -3, 0);
        says("20 + p what PERSON p pays (of these PEOPLE)", 0, 0, 0, 0);
        year(0, 0, 0);
        sold(7, 22, 0, 0);
        sold(7, 23, -3, 0);
        sold(7, 24, -3, 0);
        sold(3, 22, -3, 0);
        sold(2, 20, -3, 0);
        sold(7, 27, -3, 0);
        says("(20 and 27)", 0, 0, 0, 0, 0, 0, 0, 0);
        year(0, 0, 3);
        law("v9(p=0);v5(p=7)", 2);
        pays(129, new int[] {0}, 5);
        sold(129, 27, 0, 0);
        law("v9(p=7);v5(p=0)", 2);
        sold(129, 27, 5, 0);
        sold(129, 20, 0, 0);
        says("(six places)", 0, 0, 0, 0, 0, 0, 0);
        for (int y = 0; y < 6; y++) year(y, 0, 6);
        law("v9(y=p)", 1);
        gets(63, new int[] {0, 1, 2, 3, 4, 5}, 0, 1, 2, 3, 4, 5);
        gets(63, new int[] {5, 4, 3, 2, 1, 0}, 5, 4, 3, 2, 1, 0);
        sold(63, 6, -3, 0, 1, 2, 3, 4, 5);
        sold(63, 7, -3, 0, 1, 2, 3, 4, 5);
    }

    private static void soldOwners() {
        says("(the OWNERS sell, nobody buys its own)", 0, 0, 0);
        year(0, 0, 0);
        law("v9(p=0);v4(p=1);v3(p=2)", 3);
        sold(7, 10, 4, 0);
        sold(7, 0, 1, 0);
        sold(5, 0, 2, 0);
        sold(1, 10, 0, 0);
        sold(1, 0, 8, 0);
        says("(an OWNER may buy another one's; its OWNER counts, not its LIVER)", 0, 0);
        year(0, 0, 0);
        year(1, 0, 1);
        law("v9(1=1)", 1);
        gets(3, new int[] {0, 1}, 1, 0);
        deals("0a=b", 1);
        gets(3, new int[] {0, 1}, 0, 8);
        gets(1, new int[] {0}, 0);
        gets(2, new int[] {0}, 8);
        says("nobody has two", 0, 0, 0);
        year(0, 0, 2);
        year(1, 0, 2);
        law("v9(p=0);v4(p=1)", 2);
        sold(1, 10, 9, 0, 1);
        sold(3, 10, 13, 0, 1);
        gets(1, new int[] {0, 1}, 0, 8);
        says("(n is not asked, COINS are not asked, nothing is done)", 0, 0);
        year(0, 0, 0);
        law("v9(1=1);n(1=1)", 2);
        sold(2, 10, 9, 0);
        sold(2, 0, 1, 0);
        yearIs(0, 6, 0);
        count(7, 0);
        says("(z is not told where v is asked)", 0, 0);
        year(0, 0, 0);
        law("v5+z(z=0)", 1);
        sold(2, 10, 5, 0);
        says("to told PEOPLE (bits) (nobody of them)", 0, 0);
        year(0, 0, 0);
        law("v9(1=1)", 1);
        sold(0, 10, 0, 0);
        sold(0, 0, 8, 0);
    }

    private static void soldMost() {
        says("v together most (each at most once)", 0, 0, 0, 0);
        year(0, 0, 3);
        year(1, 0, 3);
        law("v50(y=0&p=0);v40(y=0&p=1);v30(y=1&p=0);v10(y=1&p=1)", 4);
        sold(3, 10, 70, 0, 1);
        gets(3, new int[] {0, 1}, 1, 0);
        sold(3, 10, 70, 1, 0);
        gets(3, new int[] {1, 0}, 0, 1);
        says("(what is worth most goes unsold where more comes together)", 0, 0, 0, 0);
        year(0, 0, 3);
        year(1, 0, 3);
        year(2, 0, 3);
        law("v5(y=0&p=0);v9(y=1&p=0);v8(y=2&p=0);v7(y=2&p=1)", 4);
        sold(3, 10, 16, 0, 1, 2);
        gets(3, new int[] {0, 1, 2}, 8, 0, 1);
        says("(the most that can be)", 0, 0, 0, 0, 0, 0, 0);
        for (int y = 34; y < 40; y++) year(y, 0, 6);
        law("v999(1=1)", 1);
        sold(63, 10, 5994, 34, 35, 36, 37, 38, 39);
        sold(31, 10, 4995, 34, 35, 36, 37, 38, 39);
        gets(31, new int[] {34, 35, 36, 37, 38, 39}, 0, 1, 2, 3, 4, 8);
    }

    private static void soldRows() {
        says("of like ones the least row (by YEARS: who gets it, 8 nobody)", 0, 0, 0, 0);
        year(0, 0, 3);
        year(1, 0, 3);
        law("v5(1=1)", 1);
        gets(7, new int[] {0, 1}, 0, 1);
        gets(6, new int[] {1, 0}, 1, 2);
        gets(5, new int[] {0, 1}, 0, 2);
        gets(4, new int[] {0, 1}, 2, 8);
        says("(the first YEAR of the row has the least, not the least PERSON the first YEAR)", 0, 0, 0, 0);
        year(0, 0, 3);
        year(1, 0, 3);
        law("v5(y=0);v5(y=1&p=0);v5(y=1&p=2)", 3);
        gets(7, new int[] {0, 1}, 0, 2);
        gets(7, new int[] {1, 0}, 0, 1);
        gets(3, new int[] {0, 1}, 1, 0);
        says("a YEAR that is not worth more than 0 to anybody left need not be sold (8 where nobody is left)", 0, 0, 0);
        year(0, 0, 2);
        year(1, 0, 2);
        law("v5(y=0)", 1);
        sold(1, 10, 5, 0, 1);
        gets(1, new int[] {0, 1}, 0, 8);
        gets(1, new int[] {1, 0}, 8, 0);
        sold(4, 10, 0, 0, 1);
        gets(4, new int[] {0, 1}, 8, 8);
        says("(the least row: for nothing, too)", 0, 0, 0);
        year(0, 0, 2);
        year(1, 0, 2);
        law("v5(y=0)", 1);
        gets(3, new int[] {0, 1}, 0, 1);
        gets(3, new int[] {1, 0}, 0, 1);
    }

    private static void soldPayments() {
        says("by how much v of the others together were more without that one", 0, 0, 0, 0);
        year(0, 0, 3);
        law("v50(p=0);v40(p=1);v30(p=2)", 3);
        pays(7, new int[] {0}, 40, 0, 0);
        pays(5, new int[] {0}, 30);
        pays(1, new int[] {0}, 0);
        sold(6, 21, 30, 0);
        sold(4, 22, 0, 0);
        says("(like ones pay all)", 0, 0, 0, 0);
        year(0, 0, 3);
        law("v999(1=1)", 1);
        pays(7, new int[] {0}, 999, 0, 0);
        says("(of two YEARS)", 0, 0, 0, 0);
        year(0, 0, 3);
        year(1, 0, 3);
        law("v50(y=0&p=0);v40(y=0&p=1);v30(y=1&p=0);v10(y=1&p=1)", 4);
        pays(3, new int[] {0, 1}, 0, 20);
        pays(3, new int[] {1, 0}, 0, 20);
        law("v9(y=0&p=0);v8(y=0&p=1);v8(y=0&p=2);v5(y=1&p=0);v7(y=1&p=1);v3(y=1&p=2)", 6);
        sold(7, 10, 16, 0, 1);
        pays(7, new int[] {0, 1}, 8, 4, 0);
    }

    private static void soldPaymentsOfMany() {
        says("(who gets nothing pays nothing; who is the OWNER, too)", 0, 0, 0);
        year(0, 0, 0);
        law("v9(p=0);v5(p=1);v3(p=2)", 3);
        pays(7, new int[] {0}, 0, 3, 0);
        says("(who gets one for nothing pays nothing)", 0, 0, 0);
        year(0, 0, 2);
        pays(3, new int[] {0}, 0, 0);
        says("(six YEARS to seven PEOPLE: each pays what the seventh would have given)", 0, 0, 0, 0, 0, 0, 0, 0);
        for (int y = 0; y < 6; y++) year(y, 0, 7);
        law("v4(p=6);v9(1=1)", 2);
        sold(127, 10, 54, 0, 1, 2, 3, 4, 5);
        pays(127, new int[] {0, 1, 2, 3, 4, 5}, 4, 4, 4, 4, 4, 4, 0);
        law("v9(y=p)", 1);
        pays(63, new int[] {0, 1, 2, 3, 4, 5}, 0, 0, 0, 0, 0, 0);
        law("v9(1=1)", 1);
        pays(127, new int[] {5, 4, 3, 2, 1, 0}, 9, 9, 9, 9, 9, 9, 0);
    }

    private static void soldOrder() {
        says("NONE ahead of -2 ahead of -3", 0, 0);
        year(0, 0, 0);
        due("NONE", x.sold(1, 256, 99), -1);
        bytes(1, 1, 1, 1, 1, 1, 1);
        due("n 7", x.sold(7, 256, 99), -1);
        due("-2", x.sold(1, 256, 99), -2);
        sold(256, 99, -2, 0, 0);
        sold(256, 99, -3, 0);
        sold(256, 0, -3, 0);
        sold(3, 99, -3, 0);
    }

    private static void ringBounds() {
        says("ring: (YEARS, of n OWNERS; n 1 to 8; empty then); NONE: no such n", 0, 0, 0, 0, 0, 0, 0, 0);
        for (int p = 0; p < 8; p++) year(p, 0, p);
        bytes(0, 1, 2, 3, 4, 5, 6, 7, 8);
        for (int n : new int[] {0, -1, 9, 20, LOW, HIGH}) due("n " + n, x.ring(n, 10), -1);
        count(3, 20);
        due("8", x.ring(8, 10), 0);
        count(3, 0);
        ring(10, 0, 5);
        says("NONE: it has not so many (the tape stays)", 0);
        year(0, 0, 0);
        for (int n = 1; n <= 8; n++) due("of an empty tape", x.ring(n, 10), -1);
        says("by the first n bytes of the tape (empty then)", 0);
        year(0, 0, 0);
        bytes(0, 99);
        due("1 of 20", x.ring(1, 0), 0);
        count(3, 0);
        ring(10, -2, 99);
        count(3, 0);
        ring(9, -3, 0);
        count(3, 0);
    }

    private static void ringYears() {
        says("-2: no such YEARS", 0, 0);
        year(0, 0, 0);
        year(39, 0, 1);
        for (int y : new int[] {1, 38, 40, 64, 255}) {
            ring(10, -2, y);
            ring(10, -2, 0, y);
            ring(10, -2, y, 0);
        }
        ring(10, 0, 39);
        says("-2: one OWNER twice", 0, 0, 0, 0, 0, 0, 0, 0);
        for (int p = 0; p < 8; p++) year(p, 0, p);
        year(20, 0, 0);
        year(27, 0, 7);
        ring(10, -2, 0, 20);
        ring(10, -2, 0, 0);
        ring(10, -2, 27, 1, 2, 7);
        ring(10, -2, 0, 1, 2, 3, 4, 5, 6, 20);
        ring(10, -2, 1, 2, 3, 4, 5, 6, 27, 7);
        ring(10, 0, 20, 1, 2, 3, 4, 5, 6, 27);
        deals("1b=a", 1);
        ring(10, -2, 0, 1);
        ring(0, 0, 1);
        says("-2: pawned", 0, 0);
        year(0, 0, 0);
        year(1, 0, 1);
        deals("1b]a0", 1);
        ring(10, -2, 1);
        ring(10, -2, 0, 1);
        ring(10, 0, 0);
        says("NONE ahead of -2 ahead of -3", 0);
        due("NONE", x.ring(1, 99), -1);
        ring(99, -2, 0);
        year(0, 0, 0);
        ring(99, -3, 0);
    }

    private static void ringPlaces() {
        says("ring: -3: no such place", 0, 0);
        year(0, 0, 0);
        year(1, 0, 1);
        for (int what : new int[] {-1, 2, 7, 8, 9, 11, 20, LOW, HIGH}) ring(what, -3, 0, 1);
        ring(1, -3, 0);
        ring(1, 1, 0, 1);
    }

    private static void ringWants() {
        says("each wants of those that are there yet that with most v for them", 0, 0, 0);
        for (int p = 0; p < 3; p++) year(10 + p, 0, p);
        law("v9(p=0&y=11);v9(p=1&y=12);v9(p=2&y=10)", 3);
        turns(new int[] {10, 11, 12}, 1, 2, 0);
        turns(new int[] {12, 11, 10}, 2, 0, 1);
        turns(new int[] {10, 11}, 1, 0);
        turns(new int[] {11, 12}, 1, 0);
        says("(of like ones the lowest place in the row; its own, too)", 0, 0, 0);
        for (int p = 0; p < 3; p++) year(10 + p, 0, p);
        law("v5(1=1)", 1);
        turns(new int[] {10, 11, 12}, 0, 1, 2);
        law("v5(y=10);v5(p=0&y=12);v4(1=1)", 3);
        turns(new int[] {10, 11, 12}, 0, 1, 2);
        turns(new int[] {12, 11, 10}, 2, 1, 0);
        law("v5(p=0&y=11);v5(p=0&y=12);v5(p=1&y=10);v5(p=2&y=10)", 4);
        turns(new int[] {10, 11, 12}, 1, 0, 2);
        turns(new int[] {10, 12, 11}, 1, 0, 2);
        turns(new int[] {12, 11, 10}, 2, 1, 0);
        law("v5(p=0);v5(p=1&y=10);v7(p=1&y=11)", 3);
        turns(new int[] {11, 10}, 0, 1);
        says("(z is not told where v is asked)", 0, 0);
        year(0, 0, 0);
        year(1, 0, 1);
        law("v9(z=0&p=0&y=1);v9(z=0&p=1&y=0)", 2);
        turns(new int[] {0, 1}, 1, 0);
        says("(its own is worth most to each)", 0, 0);
        year(0, 0, 0);
        year(1, 0, 1);
        law("v9(p=o);v8(1=1)", 2);
        turns(new int[] {0, 1}, 0, 1);
        law("v8(p=o);v9(1=1)", 2);
        turns(new int[] {0, 1}, 1, 0);
    }

    private static void ringRounds() {
        says("round by round all who stand in a ring of wants change and are gone", 0, 0, 0, 0);
        for (int p = 0; p < 4; p++) year(p, 0, p);
        law("v9(p=0&y=1);v9(p=1&y=0);v9(p=2&y=0);v8(p=2&y=3);v9(p=3&y=1);v8(p=3&y=2)", 6);
        turns(new int[] {0, 1, 2, 3}, 1, 0, 3, 2);
        turns(new int[] {3, 2, 1, 0}, 1, 0, 3, 2);
        law("v9(p=0&y=1);v9(p=1&y=0);v9(p=2&y=3);v9(p=3&y=2)", 4);
        turns(new int[] {0, 1, 2, 3}, 1, 0, 3, 2);
        turns(new int[] {0, 2, 1, 3}, 2, 3, 0, 1);
        says("(who wants one in a ring without standing in it waits)", 0, 0, 0);
        for (int p = 0; p < 3; p++) year(p, 0, p);
        law("v9(p=0&y=1);v9(p=1&y=0);v9(p=2&y=0)", 3);
        turns(new int[] {0, 1, 2}, 1, 0, 2);
        turns(new int[] {2, 0, 1}, 0, 2, 1);
        says("(in the second round what is gone is not wanted)", 0, 0, 0, 0);
        for (int p = 0; p < 4; p++) year(p, 0, p);
        law("v9(y=0);v8(y=1);v7(p=2&y=3);v6(p=2);v9(p=3&y=2)", 5);
        turns(new int[] {0, 1, 2, 3}, 0, 1, 3, 2);
        says("(of the OWNER, not of the LIVER)", 0, 0, 0);
        year(0, 0, 2);
        year(1, 0, 2);
        deals("0c=a;1c=b", 2);
        law("v9(p=0&y=1);v9(p=1&y=0)", 2);
        turns(new int[] {0, 1}, 1, 0);
        yearIs(0, 6, 0);
    }

    private static void ringOfEight() {
        says("what 10 how many get another one than their own (eight)", 0, 0, 0, 0, 0, 0, 0, 0);
        int[] row = {0, 1, 2, 3, 4, 5, 6, 7};
        for (int p = 0; p < 8; p++) year(p, 0, p);
        law("v9(y=[p+1]%8)", 1);
        turns(row, 1, 2, 3, 4, 5, 6, 7, 0);
        law("v9(y=[p+7]%8)", 1);
        turns(row, 7, 0, 1, 2, 3, 4, 5, 6);
        law("v9(y=7-p)", 1);
        turns(row, 7, 6, 5, 4, 3, 2, 1, 0);
        says("(eight rounds)", 0, 0, 0, 0, 0, 0, 0, 0);
        for (int p = 0; p < 8; p++) year(p, 0, p);
        law("v9-y(1=1)", 1);
        turns(row, 0, 1, 2, 3, 4, 5, 6, 7);
        law("v1+y(1=1)", 1);
        turns(row, 0, 1, 2, 3, 4, 5, 6, 7);
        says("(four rounds of two)", 0, 0, 0, 0, 0, 0, 0, 0);
        for (int p = 0; p < 8; p++) year(p, 0, p);
        law("v99-y/2*10(p/2>y/2|p/2=y/2);v1(1=1)", 2);
        law("v90-y/2*10-[y+p+1]%2(p/2=y/2|p/2>y/2);v1(1=1)", 2);
        turns(row, 1, 0, 3, 2, 5, 4, 7, 6);
    }
}
