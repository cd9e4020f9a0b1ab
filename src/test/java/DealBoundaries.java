/** Boundary cases of DEALS, sentence by sentence: promises 6, 7 and 24. */
public final class DealBoundaries extends Sentences {
    /** The longest sixteen ACTS: 159 bytes. */
    private static final String SIXTEEN = "39a>b0000;39b>a0000;".repeat(8).substring(0, 159);

    public static void main(String[] args) {
        lengths();
        leftOut();
        texts();
        years();
        acts();
        people();
        prices();
        faultOrder();
        sales();
        salePrices();
        salesForbidden();
        pawns();
        pawnPrices();
        fetched();
        fetchedPrices();
        gifts();
        toldOnes();
        judgedBounds();
        judgedAsDone();
        orderBounds();
        orderPlaces();
        orderRows();
        orderWaysBack();
        end();
    }

    private static void lengths() {
        says("deals: by the first n bytes of the tape (1 to 160); NONE: no such n");
        fill(13);
        for (int n : new int[] {0, -1, 161, 260, LOW, HIGH}) due("n " + n, x.deals(n), -1);
        count(3, 260);
        due("160", x.deals(160), -1000);
        count(3, 0);
        due("1", x.deals(text("0")), -1001);
        says("NONE: it has not so many (the tape stays)", 0, 0);
        year(0, 0, 0);
        due("of an empty tape", x.deals(1), -1);
        text("0a=b;0b=a;0a=b;00b=a");
        due("21 of 20", x.deals(21), -1);
        count(3, 20);
        due("20 of 20", x.deals(20), 4);
        says("by the first n bytes of the tape (empty then)", 0, 0);
        year(0, 0, 0);
        text("0a=b;0b=a;0a=b;0b=a;0a=b");
        due("4 of 40", x.deals(4), 1);
        count(3, 0);
        yearIs(0, 6, 1);
        deals("w", -1000);
        count(3, 0);
        says("a TEXT of at most 160 bytes (sixteen of the longest ACTS have 159)", 0, 0);
        year(39, 0, 0);
        due("159", SIXTEEN.length(), 159);
        deals(SIXTEEN, 16);
        yearIs(39, 6, 0);
        deals(SIXTEEN + ";", -1160);
        deals(SIXTEEN + "0", -1159);
        deals(SIXTEEN.substring(10) + ";39b>a00;0", -4158);
    }

    private static void leftOut() {
        says("done, one ACT behind the other, those that can't be are left out: how many were done", 10, 0, 5);
        year(0, 0, 0);
        year(1, 0, 1);
        deals("0b=a", 0);
        deals("0b=a;0a>c6;0a>c5;0c>b1;1b>a16;1b>a15;0c=b", 3);
        personIs(0, 0, 0);
        personIs(1, 0, 15);
        personIs(2, 0, 0);
        yearIs(0, 6, 1);
        yearIs(1, 6, 0);
        says("a FAULT: (nothing is done)", 10, 10);
        year(0, 0, 0);
        deals("0a>b3;0b>a3;0a>b3;0b", -1020);
        deals("0a=b;0b=b", -6008);
        deals("0a=b;40a=b", -3005);
        deals("0a=b;".repeat(16) + "0", -4080);
        yearIs(0, 6, 0);
        yearIs(0, 9, 1);
        count(7, 20);
        personIs(0, 0, 10);
    }

    private static void texts() {
        says("no blanks", 0, 0);
        deals(" 0a=b", -1000);
        deals("0 a=b", -1001);
        deals("0a =b", -1002);
        deals("0a= b", -1003);
        deals("0a=b ", -1004);
        deals("0a>b 1", -1004);
        says("ACTS with a ; between two", 0, 0);
        deals(";", -1000);
        deals("0a=b;", -1005);
        deals("0a=b;;0b=a", -1005);
        deals("0a=b0b=a", -1004);
        deals("0a=b,0b=a", -1004);
        deals("0a>b1;", -1006);
        says("a YEAR, a PERSON, a sign, another PERSON: > ] [ =", 0, 0);
        for (String sign : "> ]".split(" ")) {
            deals("0a" + sign + "b", -1004);
            deals("0a" + sign + "b1", 0);
        }
        for (String sign : "[ =".split(" ")) {
            deals("0a" + sign + "b", 0);
            deals("0a" + sign + "b1", -1004);
        }
        for (String sign : "< ) ( - a 0 ;".split(" ")) deals("0a" + sign + "b1", -1002);
        says("FAULTS: 1 what can't stand there (the end, too)", 0, 0);
        for (String end : "3 39 39a 39a> 39a>b 39a] 39a]b 39a[ 39a= 39a=b; 39a>b1; 39a>b1;0".split(" ")) deals(end, -1000 - end.length());
        says("a sign that is none: bytes above 127", 0, 0);
        due("a and 128", x.deals(bytes('0', 'a' + 128, '=', 'b')), -1001);
        due("0 and 128", x.deals(bytes('0' + 128, 'a', '=', 'b')), -1000);
        due("= and 128", x.deals(bytes('0', 'a', '=' + 128, 'b')), -1002);
    }

    private static void years() {
        says("a YEAR (0 to 39, one or two digits)", 0, 0);
        year(0, 0, 0);
        year(5, 0, 0);
        year(39, 0, 0);
        deals("0a=b;00b=a;5a=b;05b=a;39a=b", 5);
        deals("a=b", -1000);
        deals("000a=b", -1002);
        deals("039a=b", -1002);
        deals("399a=b", -1002);
        says("3 a YEAR above 39, at its first digit", 0, 0);
        deals("40a=b", -3000);
        deals("41a=b", -3000);
        deals("50a=b", -3000);
        deals("99a=b", -3000);
        deals("0a=b;40a=b", -3005);
        deals("0a>b12;40a=b", -3007);
        says("(asked when its digits end, behind two at the latest)", 0, 0);
        deals("40", -3000);
        deals("40x", -3000);
        deals("40;", -3000);
        deals("400", -3000);
        deals("4", -1001);
        deals("4x", -1001);
        deals("4a=b", 0);
        deals("9a=b", 0);
        deals("04a=b", 0);
        deals("390", -1002);
        deals("39", -1002);
    }

    private static void acts() {
        says("ACTS (16 at most)", 0, 0);
        year(0, 0, 0);
        deals("0a=b;0b=a;".repeat(8).substring(0, 79), 16);
        deals("0a=b;0b=a;".repeat(8).substring(0, 74), 15);
        yearIs(0, 6, 1);
        says("4 a 17th ACT, at its first digit", 0, 0);
        deals("0a=b;".repeat(16) + "0a=b", -4080);
        deals("0a=b;".repeat(16) + "0", -4080);
        deals("0a=b;".repeat(16) + "9x", -4080);
        deals(SIXTEEN.substring(0, 149) + ";0a=b;1a=b", -4155);
        says("(asked ahead of its number)", 0, 0);
        deals("0a=b;".repeat(16) + "40a=b", -4080);
        deals("0a=b;".repeat(15) + "40a=b", -3075);
        says("(what is no digit can't stand there)", 0, 0);
        deals("0a=b;".repeat(16), -1080);
        deals("0a=b;".repeat(16) + "a", -1080);
        deals("0a=b;".repeat(16) + ";", -1080);
    }

    private static void people() {
        says("PEOPLE (a to h): a letter", 0, 0, 0, 0, 0, 0, 0, 0);
        year(0, 0, 0);
        deals("0a=b;0b=c;0c=d;0d=e;0e=f;0f=g;0g=h;0h=a", 8);
        for (char letter : new char[] {'`', 'i', 'A', 'H', 'z', '0', ';', '@'}) {
            deals("00" + letter + "=b", -1002);
            deals("0a=" + letter, -1003);
        }
        says("6 a PERSON with itself, at the second one", 0, 0);
        for (String act : "0a=a 0h=h 0b[b 0c]c1 0d>d1 0a>a".split(" ")) deals(act, -6003);
        deals("00a=a", -6004);
        deals("0a=b;0b>b1", -6008);
        says("(asked of PEOPLE that are not told, too)");
        deals("0c=c", -6003);
        deals("0c=d", 0);
    }

    private static void prices() {
        says("in sales and pawns a price (0 to 9999, one to four digits)", 9999, 9999);
        year(0, 0, 0);
        deals("0a>b9999;0b>a0009;0a>b0;0b]a9", 4);
        deals("0a>b12345", -1008);
        deals("0a>b00000", -1008);
        deals("0a]b10000", -1008);
        deals("0a>b", -1004);
        deals("0a]b", -1004);
        deals("0a>b;0b>a1", -1004);
        deals("0a>ba", -1004);
        deals("0a>b-1", -1004);
        deals("0a>b1a", -1005);
        says("(no price in a gift, no price where it is fetched)", 0, 0);
        deals("0a=b0", -1004);
        deals("0a[b0", -1004);
    }

    private static void faultOrder() {
        says("FAULTS, the first from the left", 0, 0);
        deals("0a=a;40", -6003);
        deals("40a=a", -3000);
        deals("40;0a=a", -3000);
        deals("x;40", -1000);
        deals("0x=x", -1001);
        deals("0a=b;0a=a;" + "0a=b;".repeat(15), -6008);
        says("a FAULT: -1000 times its number, less its place", 0, 0);
        deals("0a>b1234;".repeat(15) + "41a=b", -3135);
        deals("0a>b1234;".repeat(15) + "1a=a", -6138);
        deals("0a>b1234;".repeat(15) + "1a=", -1138);
    }

    private static void sales() {
        says("> a sale: COINS go to the first one, the YEAR to the second one", 10, 20);
        year(0, 0, 0);
        deals("0a>b7", 1);
        personIs(0, 0, 17);
        personIs(1, 0, 13);
        yearIs(0, 6, 1);
        yearIs(0, 7, -2);
        says("A YEAR that goes to another one: that one is its OWNER, and behind its HANDS", 10, 20);
        year(0, 0, 0);
        deals("0a>b7", 1);
        yearIs(0, 6, 1);
        yearIs(0, 9, 2);
        yearIs(0, 20, 0);
        yearIs(0, 21, 1);
        says("the first one owns it", 10, 20, 30);
        year(0, 0, 0);
        deals("0b>a1", 0);
        deals("0b>c1", 0);
        deals("0a>b1;0a>c1", 1);
        yearIs(0, 6, 1);
        says("it is not pawned", 10, 20, 30);
        year(0, 0, 0);
        deals("0a]b1", 1);
        deals("0a>c1", 0);
        deals("0a>b1", 0);
        deals("0b>c1", 0);
        deals("0b>a1", 0);
        deals("0a[b;0a>c1", 2);
    }

    private static void salePrices() {
        says("the second one has the price", 0, 5);
        year(0, 0, 0);
        deals("0a>b6", 0);
        deals("0a>b9999", 0);
        deals("0a>b5", 1);
        personIs(0, 0, 5);
        personIs(1, 0, 0);
        deals("0b>a6", 0);
        says("(a price of 0)", 0, 0);
        year(0, 0, 0);
        deals("0a>b1", 0);
        deals("0a>b0", 1);
        yearIs(0, 6, 1);
        says("COINS go to the first one (99999 at most stay)", 99990, 10);
        year(0, 0, 0);
        year(1, 0, 0);
        deals("0a>b9", 1);
        personIs(0, 0, 99999);
        personIs(1, 0, 1);
        deals("1a>b1", 1);
        personIs(0, 0, 99999);
        personIs(1, 0, 0);
        yearIs(1, 6, 1);
        says("(the highest price)", 90001, 9999);
        year(0, 0, 0);
        deals("0a>b9999", 1);
        personIs(0, 0, 99999);
        personIs(1, 0, 0);
    }

    private static void salesForbidden() {
        says("n does not hold (asked of this buyer, this price)", 10, 10, 10);
        for (int y = 0; y < 5; y++) year(y, 0, 0);
        law("n(y=1);n(p=2);n(z=3)", 3);
        deals("1a>b1", 0);
        deals("0a>c1", 0);
        deals("0a>b3", 0);
        deals("0a>b2;2a>b4", 2);
        says("n (asked as it is ahead of the ACT)", 10, 10);
        for (int y = 0; y < 3; y++) year(y, 0, 0);
        law("n(c<5|a>1|h>1)", 1);
        deals("0a>b6", 1);
        deals("1a>b1", 0);
        x.person(1, 5);
        deals("1a>b5", 1);
        x.person(1, 9);
        deals("2a>b1", 0);
        deals("0b>a1", 0);
        says("n (one that is REFUSED does not hold)", 10, 10);
        year(0, 0, 0);
        law("n(1/z=9);n(z/0=z/0)", 2);
        deals("0a>b0;0b=a", 2);
    }

    private static void pawns() {
        says("] a pawn: the first one owns it still, the second one holds it", 10, 20);
        year(0, 0, 0);
        deals("0a]b7", 1);
        personIs(0, 0, 17);
        personIs(1, 0, 13);
        yearIs(0, 6, 0);
        yearIs(0, 7, 1);
        yearIs(0, 8, 7);
        yearIs(0, 9, 1);
        personIs(0, 1, 1);
        personIs(1, 1, 0);
        personIs(1, 4, 1);
        count(6, 1);
        says("likewise: the first one owns it", 10, 20, 30);
        year(0, 0, 0);
        deals("0b]a1", 0);
        deals("0b]c1", 0);
        says("likewise: it is not pawned", 10, 20, 30);
        year(0, 0, 0);
        deals("0a]b1", 1);
        deals("0a]b1", 0);
        deals("0a]c1", 0);
        deals("0b]c1", 0);
        yearIs(0, 8, 1);
        says("(n must not hold for it, either)", 10, 20, 30);
        for (int y = 0; y < 2; y++) year(y, 0, 0);
        law("n(y=1);n(p=2);n(z=3)", 3);
        deals("1a]b1", 0);
        deals("0a]c1", 0);
        deals("0a]b3", 0);
        deals("0a]b2", 1);
    }

    private static void pawnPrices() {
        says("likewise: the second one has the price", 0, 5);
        year(0, 0, 0);
        deals("0a]b6", 0);
        deals("0a]b5", 1);
        personIs(1, 0, 0);
        says("(nothing is lent)", 0, 0);
        year(0, 0, 0);
        deals("0a]b1", 0);
        deals("0a]b0", 1);
        yearIs(0, 7, 1);
        yearIs(0, 8, 0);
        deals("0a[b", 1);
        says("COINS go to the first one (99999 at most stay)", 99998, 10, 10);
        year(0, 0, 0);
        year(1, 0, 0);
        deals("0a]b1", 1);
        personIs(0, 0, 99999);
        deals("1a]c10", 1);
        personIs(0, 0, 99999);
        personIs(2, 0, 0);
        yearIs(1, 8, 10);
        says("(one PERSON may hold many)", 0, 9);
        for (int y = 0; y < 40; y++) year(y, 0, 0);
        for (int y = 0; y < 40; y += 2) deals(y + "a]b0;" + (y + 1) + "a]b0", 2);
        personIs(1, 4, 40);
        count(6, 40);
        personIs(0, 1, 40);
    }

    private static void fetched() {
        says("[ it is fetched: the YEAR is not pawned any more", 10, 20);
        year(0, 0, 0);
        deals("0a]b7;0a[b", 2);
        yearIs(0, 7, -2);
        yearIs(0, 8, 0);
        yearIs(0, 6, 0);
        yearIs(0, 9, 1);
        personIs(0, 0, 10);
        personIs(1, 0, 20);
        count(6, 0);
        says("the first one pawned it with the second one", 10, 20, 30);
        year(0, 0, 0);
        deals("0a[b", 0);
        deals("0a]b7", 1);
        deals("0b[a", 0);
        deals("0c[b", 0);
        deals("0a[c", 0);
        deals("0b[c", 0);
        yearIs(0, 7, 1);
        deals("0a[b", 1);
        deals("0a[b", 0);
        says("(n is not asked)", 10, 20);
        year(0, 0, 0);
        deals("0a]b7", 1);
        law("n(1=1)", 1);
        deals("0a[b", 1);
    }

    private static void fetchedPrices() {
        says("and has what was lent and has grown: that goes to the second one", 0, 20);
        year(0, 0, 0);
        deals("0a]b20", 1);
        law("i3(1=1)", 1);
        days(2, 0);
        yearIs(0, 8, 26);
        x.person(0, 25);
        deals("0a[b", 0);
        yearIs(0, 7, 1);
        personIs(0, 0, 25);
        x.person(0, 26);
        deals("0a[b", 1);
        personIs(0, 0, 0);
        personIs(1, 0, 26);
        says("(of the second one, too, 99999 at most stay)", 0, 20);
        year(0, 0, 0);
        deals("0a]b20", 1);
        x.person(1, 99980);
        deals("0a[b", 1);
        personIs(1, 0, 99999);
        personIs(0, 0, 0);
        says("(pawned again: what it had grown is gone)", 50, 20);
        year(0, 0, 0);
        deals("0a]b20", 1);
        law("i3(1=1)", 1);
        days(1, 0);
        deals("0a[b;0a]b5", 2);
        yearIs(0, 8, 5);
        days(1, 0);
        yearIs(0, 8, 8);
        days(1, 1);
    }

    private static void gifts() {
        says("= a gift: as a sale without a price", 10, 0);
        year(0, 0, 0);
        deals("0a=b", 1);
        yearIs(0, 6, 1);
        yearIs(0, 21, 1);
        personIs(0, 0, 10);
        personIs(1, 0, 0);
        says("as a sale: the first one owns it, it is not pawned", 10, 0, 0);
        year(0, 0, 0);
        deals("0b=a", 0);
        deals("0b=c", 0);
        deals("0a]b0", 1);
        deals("0a=c", 0);
        deals("0a=b", 0);
        deals("0b=a", 0);
        says("(n is asked with z 0)", 10, 10);
        year(0, 0, 0);
        law("n(z=0)", 1);
        deals("0a=b", 0);
        deals("0a>b0", 0);
        deals("0a>b1", 1);
        law("n(z>0)", 1);
        deals("0b=a", 1);
        says("n does not hold (asked of the one who gets it)", 10, 10, 10);
        year(0, 0, 0);
        law("n(p=1)", 1);
        deals("0a=b", 0);
        deals("0a=c;0c=a", 2);
    }

    private static void toldOnes() {
        says("PEOPLE and YEARS must be told", 9, 9);
        year(0, 0, 0);
        for (String act : "0a=c 0a>c0 0a]c0 0a[c 0c=a 0c>a0 0c]a0 0c[a 1a=b 1a>b0 1a]b0 1a[b 39a=b".split(" ")) deals(act, 0);
        yearIs(0, 6, 0);
        x.person(2, 0);
        year(39, 0, 0);
        deals("0a=c;39a=b", 2);
        says("(a YEAR that is not told has no OWNER)", 9, 9);
        deals("0a=b;39a>b1;20a]b0", 0);
        judged("0a=b", 0);
        inOrder("0a=b", -1, 0);
        says("the two not alike", 9, 9);
        year(0, 0, 0);
        deals("0a=a", -6003);
    }

    private static void judgedBounds() {
        says("judged: NONE: no such n, it has not so many (the tape stays)", 0, 0);
        fill(13);
        for (int n : new int[] {0, -1, 161, 260, LOW, HIGH}) due("n " + n, x.judged(n), -1);
        count(3, 260);
        due("160", x.judged(160), -1000);
        count(3, 0);
        due("of an empty tape", x.judged(1), -1);
        text("0a=b;0b=a;0a=b;00b=a");
        due("21 of 20", x.judged(21), -1);
        count(3, 20);
        year(0, 0, 0);
        due("20 of 20", x.judged(20), 4);
        count(3, 0);
        text("0a=b;0b=a;0a=b;0b=a;0a=b");
        due("4 of 40", x.judged(4), 1);
        count(3, 0);
        says("judged: a FAULT", 0, 0);
        judged("40a=b", -3000);
        judged("0a=b;0b=b", -6008);
        judged("0a=b;".repeat(16) + "0", -4080);
        judged("0a=b;", -1005);
        count(3, 0);
        year(39, 0, 0);
        judged(SIXTEEN + ";", -1160);
        judged(SIXTEEN, 16);
    }

    private static void judgedAsDone() {
        says("the number of the first ACT that can't be (0 on); how many ACTS: all can", 10, 10);
        year(0, 0, 0);
        judged("0b=a", 0);
        judged("0a=b", 1);
        judged("0a=b;0a=b", 1);
        judged("0a=b;0b=a", 2);
        judged("0b=a;0a=b", 0);
        judged("0a=b;0b=a;0b=a;0b=a", 2);
        judged("0a=b;0b=a;".repeat(8).substring(0, 79), 16);
        judged("0a=b;0b=a;".repeat(7) + "0a=b;0a=b", 15);
        says("JUDGED are DEALS as if they were done now", 10, 10, 0);
        year(0, 0, 0);
        judged("0a>b10;0b>a20;0a>c0;0c=b", 4);
        judged("0a>b10;0b>a21", 1);
        judged("0a>b10;0b>a20;0a>c1", 2);
        judged("0a]b10;0a[b;0a]b11", 2);
        law("n(h>2)", 1);
        judged("0a=b;0b=c;0c=a", 2);
        says("nothing is done", 10, 10, 0);
        year(0, 0, 0);
        judged("0a>b10;0b>a20;0a]c0", 3);
        yearIs(0, 6, 0);
        yearIs(0, 7, -2);
        yearIs(0, 9, 1);
        personIs(0, 0, 10);
        personIs(1, 0, 10);
        count(6, 0);
    }

    private static void orderBounds() {
        says("inOrder: NONE also: no such n, it has not so many (the tape stays)", 0, 0);
        fill(13);
        for (int n : new int[] {0, -1, 161, 260, LOW, HIGH}) due("n " + n, x.inOrder(n, -1), -1);
        count(3, 260);
        due("160", x.inOrder(160, -1), -1000);
        count(3, 0);
        due("of an empty tape", x.inOrder(1, -1), -1);
        text("00a=b;00b=a;0a=b;0b=a");
        due("41 of 40", x.inOrder(41, -1), -1);
        count(3, 40);
        year(0, 0, 0);
        due("21 of 40", x.inOrder(21, -1), 1);
        count(3, 0);
        text("0a=b;0b=a;0a=b;00b=a");
        due("20 of 20", x.inOrder(20, -1), 1);
        says("inOrder: a FAULT", 0, 0);
        year(39, 0, 0);
        inOrder("40a=b", -1, -3000);
        inOrder("0a=a", -1, -6003);
        inOrder("0a=b;", 0, -1005);
        inOrder("0a=b;".repeat(16) + "0", -1, -4080);
        inOrder(SIXTEEN + ";", -1, -1160);
        inOrder(SIXTEEN, -1, -3);
        count(3, 0);
        says("DEALS of 6 ACTS at most; -3: more than 6 ACTS", 0, 0);
        year(0, 0, 0);
        String six = "0a=b;0b=a;0a=b;0b=a;0a=b;0b=a";
        inOrder(six, -1, 1);
        inOrder(six, 5, 5);
        inOrder(six + ";0a=b", -1, -3);
        inOrder(six + ";0a=b", 0, -3);
        count(3, 0);
        says("a FAULT ahead of -3", 0, 0);
        inOrder(six + ";0a=b;0a=a", -1, -6038);
        inOrder("0a=a", 7, -6003);
    }

    private static void orderPlaces() {
        says("-3: no such place", 0, 0);
        year(0, 0, 0);
        inOrder("0a=b;0b=a", 0, 0);
        inOrder("0a=b;0b=a", 1, 1);
        for (int what : new int[] {2, -2, 6, LOW, HIGH}) inOrder("0a=b;0b=a", what, -3);
        count(3, 0);
        says("what NONE whether there is such an order (1, 0)", 0, 0);
        year(0, 0, 0);
        inOrder("0a=b", -1, 1);
        inOrder("0b=a", -1, 0);
        inOrder("0a=b;0a=b", -1, 0);
        says("-2: there is none (of places)", 0, 0);
        year(0, 0, 0);
        inOrder("0a=b;0a=b", 0, -2);
        inOrder("0a=b;0a=b", 1, -2);
        count(3, 0);
        says("in inOrder() -3 ahead of -2", 0, 0);
        year(0, 0, 0);
        inOrder("0a=b;0a=b", 2, -3);
        inOrder("0a=b;0a=b", -2, -3);
        inOrder("0b=a;0b=a;0b=a;0b=a;0b=a;0b=a;0b=a", 0, -3);
        inOrder("0b=a;0b=a;0b=a;0b=a;0b=a;0b=a;0b=a", -1, -3);
        says("nothing is done", 10, 10);
        year(0, 0, 0);
        inOrder("0a>b5", 0, 0);
        inOrder("0b>a5;0a>b5", 0, 1);
        inOrder("0a]b5", -1, 1);
        yearIs(0, 6, 0);
        yearIs(0, 7, -2);
        yearIs(0, 9, 1);
        personIs(0, 0, 10);
        personIs(1, 0, 10);
    }

    private static void row(String deals, int... acts) {
        inOrder(deals, -1, 1);
        for (int i = 0; i < acts.length; i++) inOrder(deals, i, acts[i]);
    }

    private static void orderRows() {
        says("done in any order: whether there is one in which all can be", 0, 10, 0);
        year(0, 0, 0);
        year(1, 0, 1);
        row("0b=c;0a=b", 1, 0);
        row("0c>a0;1b>a10;0b=c;0a>b10", 3, 1, 2, 0);
        inOrder("0c>a0;1b>a11;0b=c;0a>b10", -1, 0);
        row("0a[b;0a]b3", 1, 0);
        says("of like ones the least row of ACTS", 0, 0, 0, 0);
        for (int y = 0; y < 6; y++) year(y, 0, 0);
        row("0a=b;1a=b;2a=b;3a=b;4a=b;5a=b", 0, 1, 2, 3, 4, 5);
        row("0a=b;1b=c;1a=b", 0, 2, 1);
        row("0b=c;1a=b;0a=b", 1, 2, 0);
        row("0a=b;0b=a;0a=c;0c=a", 0, 1, 2, 3);
        row("0b=a;0a=b;0a=c;0c=b;0b=d", 1, 0, 2, 3, 4);
        row("0d=a;0c=d;0b=c;0a=b;1a=b;0a=d", 3, 2, 1, 0, 4, 5);
        says("(six in the order from the last one)", 0, 0, 0, 0, 0, 0, 0);
        year(0, 0, 0);
        row("0f=g;0e=f;0d=e;0c=d;0b=c;0a=b", 5, 4, 3, 2, 1, 0);
        inOrder("0f=g;0e=f;0d=e;0c=d;0b=c;0a=c", -1, 0);
    }

    /** The lowest ACT leads nowhere: what it has done is as before when the next one is tried. */
    private static void orderWaysBack() {
        says("there is one (behind an ACT that leads nowhere)", 0, 10, 0, 10);
        year(0, 5, 0);
        year(1, 5, 2);
        row("0a=b;0a=c;0c=a", 1, 2, 0);
        row("0a]b0;0a=c;0c=a", 1, 2, 0);
        row("0a>b10;1c>b10;1b>d10", 1, 2, 0);
        law("n(y=1&c>0)", 1);
        row("0a>b10;1c=a", 1, 0);
        law("n(h=2&p=2)", 1);
        inOrder("0a=b;0b=a;0a=c", -1, 1);
        law("n(h>1&p=2)", 1);
        row("0a=b;0a=c;0c=a", 1, 2, 0);
        says("there is one (what must be paid is as before)", 0, 10, 0, 10);
        year(0, 5, 0);
        year(1, 5, 2);
        deals("0a]b5", 1);
        row("0a[b;1c>a5;1a>d10", 1, 2, 0);
        says("there is none (what must be paid, and has grown, is as before)", 1, 5, 0);
        year(0, 5, 0);
        year(1, 5, 2);
        deals("0a]b5", 1);
        law("i1(1=1)", 1);
        days(1, 0);
        inOrder("0a[b;1c>a1", -1, 0);
        inOrder("0a[b;1c>a0", -1, 1);
        says("there is one (the OWNER is as before, whoever that is)", 0, 0, 0);
        year(0, 5, 2);
        row("0c=b;0c=a;0a=c", 1, 2, 0);
        year(0, 5, 0);
        deals("0a=c", 1);
        row("0c=b;0c=a;0a=c", 1, 2, 0);
        says("there is one (the last two but one lead nowhere)", 0, 0, 5);
        for (int y = 0; y < 6; y++) year(y, 5, 0);
        law("n(y=5&c=0)", 1);
        row("0a=b;1a=b;2a=b;3a=b;4a>c5;5a=c", 0, 1, 2, 3, 5, 4);
        says("there is one (the first of six leads nowhere)", 0, 0, 5);
        for (int y = 0; y < 6; y++) year(y, 5, 0);
        law("n(y=5&c=0)", 1);
        row("4a>c5;0a=b;1a=b;2a=b;3a=b;5a=c", 1, 2, 3, 4, 5, 0);
    }
}
