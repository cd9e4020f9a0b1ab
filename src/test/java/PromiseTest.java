/** Each promise by hand: ordinary inputs, the edges that the document names, wrong inputs. */
public final class PromiseTest {
    private static int wrong = 0;
    private static YearTrade x;

    private static void due(String what, long got, long want) {
        if (got == want) return;
        wrong++;
        System.out.println(what + " answered " + got + ", due is " + want);
    }

    private static void yes(String what, boolean got) {
        due(what, got ? 1 : 0, 1);
    }

    private static void no(String what, boolean got) {
        due(what, got ? 1 : 0, 0);
    }

    /** Feeds these bytes and what fills the last twenty; the answer is how many bytes matter. */
    private static int bytes(int... row) {
        for (int at = 0; at < row.length; at += 20) {
            int[] five = new int[5];
            for (int i = 0; i < 20; i++) {
                int sign = at + i < row.length ? row[at + i] : 'a';
                five[i / 4] = five[i / 4] << 8 | sign;
            }
            x.feed(five[0], five[1], five[2], five[3], five[4]);
        }
        return row.length;
    }

    private static int text(String signs) {
        return bytes(signs.chars().toArray());
    }

    private static int law(String signs) {
        return x.law(text(signs));
    }

    private static int deals(String signs) {
        return x.deals(text(signs));
    }

    private static int judged(String signs) {
        return x.judged(text(signs));
    }

    private static int inOrder(String signs, int what) {
        return x.inOrder(text(signs), what);
    }

    private static int check(int... owners) {
        int[] row = new int[4 * owners.length];
        for (int i = 0; i < row.length; i++) row[i] = owners[i / 4] >>> 24 - 8 * (i % 4) & 255;
        return x.check(bytes(row) / 4);
    }

    /** PEOPLE 0 on with these COINS in a new object. */
    private static void people(int... coins) {
        x = new YearTrade();
        for (int p = 0; p < coins.length; p++) x.person(p, coins[p]);
    }

    private static void plainYear(int y, int date, int liver) {
        yes("a plain year", x.year(y, date, liver, 0, 0, false, 0));
    }

    public static void main(String[] args) {
        newObject();
        person();
        year();
        feed();
        law();
        deals();
        pawns();
        judgedDeals();
        yearAndPerson();
        years();
        worthAndMay();
        clashes();
        givenBack();
        deeds();
        taught();
        share();
        sold();
        ring();
        forged();
        dealtIn();
        days();
        fortunes();
        tried();
        inOrders();
        common();
        linked();
        regime();
        seed();
        keepAndUndo();
        check();
        count();
        System.out.println(wrong == 0 ? "all answers are as due" : wrong + " answers are not as due");
        if (wrong != 0) System.exit(1);
    }

    private static void newObject() {
        x = new YearTrade();
        due("NONE", YearTrade.NONE, -1);
        for (int what = 0; what <= 8; what++) due("1: count " + what, x.count(what), what == 4 ? 1 : 0);
        no("1: undo", x.undo());
    }

    private static void person() {
        x = new YearTrade();
        yes("2: first", x.person(0, 0));
        yes("2: last", x.person(7, 99999));
        due("2: told", x.count(0), 129);
        due("2: coins", x.personIs(7, 0), 99999);
        yes("2: other coins", x.person(7, 5));
        due("2: other coins", x.personIs(7, 0), 5);
        no("2: -1", x.person(-1, 5));
        no("2: 8", x.person(8, 5));
        no("2: coins -1", x.person(7, -1));
        no("2: coins 100000", x.person(7, 100000));
        due("2: nothing is changed", x.personIs(7, 0), 5);
        plainYear(0, 1, 7);
        yes("2: owner told anew", x.person(7, 9));
        due("2: its years stay", x.personIs(7, 1), 1);
    }

    private static void year() {
        people(100, 100, 100);
        yes("3: first", x.year(0, 0, 0, 0, 0, false, 0));
        yes("3: last", x.year(39, 99, 2, 4095, 3, true, 9));
        no("3: year -1", x.year(-1, 0, 0, 0, 0, false, 0));
        no("3: year 40", x.year(40, 0, 0, 0, 0, false, 0));
        no("3: date -1", x.year(1, -1, 0, 0, 0, false, 0));
        no("3: date 100", x.year(1, 100, 0, 0, 0, false, 0));
        no("3: liver -1", x.year(1, 0, -1, 0, 0, false, 0));
        no("3: liver 8", x.year(1, 0, 8, 0, 0, false, 0));
        no("3: liver not told", x.year(1, 0, 3, 0, 0, false, 0));
        no("3: skills -1", x.year(1, 0, 0, -1, 0, false, 0));
        no("3: skills 4096", x.year(1, 0, 0, 4096, 0, false, 0));
        no("3: met -1", x.year(1, 0, 0, 0, -1, false, 0));
        no("3: met 256", x.year(1, 0, 0, 0, 256, false, 0));
        no("3: met itself", x.year(1, 0, 0, 0, 1, false, 0));
        no("3: met one not told", x.year(1, 0, 0, 0, 8, false, 0));
        no("3: mark -1", x.year(1, 0, 0, 0, 0, false, -1));
        no("3: mark 10", x.year(1, 0, 0, 0, 0, false, 10));
        due("3: told", x.count(1), 2);
        due("3: sold twice", deals("39c>a1;39a]b1"), 2);
        due("3: hands", x.yearIs(39, 9), 2);
        yes("3: told anew", x.year(39, 98, 1, 1, 5, false, 8));
        due("3: owner anew", x.yearIs(39, 6), 1);
        due("3: not pawned anew", x.yearIs(39, 7), -2);
        due("3: no pawn is left", x.count(6), 0);
        due("3: hands anew", x.yearIs(39, 9), 1);
        due("3: first hand anew", x.yearIs(39, 20), 1);
        due("3: deed anew", x.yearIs(39, 4), 0);
        due("3: the fallen stay none", x.count(8), 0);
    }

    private static void feed() {
        people();
        for (int i = 1; i <= 13; i++) due("4: feed", x.feed(0, 0, 0, 0, 0), 20 * i);
        due("4: full", x.feed(0, 0, 0, 0, 0), -1);
        due("4: full stays", x.count(3), 260);
        people(1);
        plainYear(0, 0, 0);
        x.feed(0x766e2879, 0x3d30297a, 0, 0, 0);
        due("4: highest byte first, v n is a fault at 1", x.law(8), -1001);
        x.feed(0x6e28793d, 0x30290000, -1, 0, 0);
        due("4: n(y=0)", x.law(6), 1);
        due("4: bytes above 127 are no signs", bytes(0xf6, 0xff), 2);
        due("4: a fault", x.law(2), -1000);
    }

    private static void law() {
        people(10, 10);
        plainYear(3, 0, 0);
        due("5: 0", x.law(0), -1);
        due("5: -1", x.law(-1), -1);
        due("5: empty", x.law(1), -1);
        due("5: a clause", law("v7(1=1)"), 1);
        due("5: the tape is empty", x.count(3), 0);
        due("5: fault", law("v8(1=1);w"), -1008);
        due("5: the tape is empty then, too", x.count(3), 0);
        due("5: the one before stays", x.worth(3, 0), 7);
        due("5: and its clauses", x.count(2), 1);
        text("v9(1=1)");
        due("5: not so many", x.law(21), -1);
        due("5: the tape stays", x.count(3), 20);
        due("5: then it is read", x.law(7), 1);
        due("5: in place", x.worth(3, 0), 9);
        String longest = "v10(1=1" + "&1=1".repeat(58) + ")";
        due("5: 240 is long", longest.length(), 240);
        due("5: the longest", law(longest), 1);
        due("5: it holds", x.worth(3, 0), 10);
        due("5: the longest that does not end", law(longest.substring(0, 239) + "|"), -1240);
        for (int i = 0; i < 13; i++) x.feed(0, 0, 0, 0, 0);
        due("5: 241", x.law(241), -1);
        due("5: 240 of no sense", x.law(240), -1000);
        faults();
        clauses();
    }

    private static void faults() {
        due("5: blank", law("v7 (1=1)"), -1002);
        due("5: no clause", law(";"), -1000);
        due("5: no (", law("n1"), -1001);
        due("5: no C", law("n()"), -1002);
        due("5: no sign", law("n(1)"), -1003);
        due("5: no second E", law("n(1=)"), -1004);
        due("5: two signs", law("n(1=1=1)"), -1005);
        due("5: no )", law("n(1=1"), -1005);
        due("5: behind )", law("n(1=1))"), -1006);
        due("5: [ of a C", law("n([1=1])"), -1004);
        due("5: ( of an E", law("v(1)(1=1)"), -1001);
        due("5: ( of a second E", law("n(1=(1))"), -1004);
        due("5: an E that is a C", law("n((1)=1)"), -1004);
        due("5: & at the end", law("n(1=1&)"), -1006);
        due("5: | at the first", law("n(|1=1)"), -1002);
        due("5: minus at the first", law("n(-1=1)"), -1002);
        due("5: two of + -", law("n(1+-1=1)"), -1004);
        due("5: ! of an E", law("n(1=!1)"), -1004);
        due("5: big letter", law("N(1=1)"), -1000);
        due("5: x is no letter", law("n(x=1)"), -1002);
        due("5: five digits", law("n(99999=1)"), 1);
        due("5: six digits", law("n(1=000001)"), -2009);
        due("5: six digits in an E", law("v123456(1=1)"), -2006);
        due("5: letter behind digits", law("n(1=00001y)"), -1009);
        due("5: six !", law("n(!!!!!1=1)"), 1);
        due("5: seven !", law("n(!!!!!!1=1)"), -5007);
        due("5: [ in !", law("n(!!!!![1]=1)"), -5007);
        due("5: ! ends with its piece", law("n(!!!!!1=1&!!!!!1=1|[[[[[1]]]]]=1)"), 1);
        due("5: ( in six", law("n(((((([1]=1))))))"), -5007);
        due("5: ] ends [", law("n([[[[[1]]]]]+[[[[[1]]]]]=[[[[[1]]]]])"), 1);
        due("5: six [ in an E", law("v[[[[[[1]]]]]](1=1)"), 1);
        due("5: seven [ in an E", law("v[[[[[[[1]]]]]]](1=1)"), -5007);
        due("5: a seventh where it can't stand", law("n((((((y(=1))))))"), -1008);
        due("5: the first from the left", law("n(1=1);q;n(!!!!!!1=1"), -1007);
    }

    private static void clauses() {
        StringBuilder sixteen = new StringBuilder("n(1=1)");
        for (int i = 1; i < 16; i++) sixteen.append(";n(1=1)");
        due("5: sixteen", law(sixteen.toString()), 16);
        due("5: count", x.count(2), 16);
        due("5: a seventeenth", law(sixteen + ";n"), -4112);
        due("5: not even a letter", law(sixteen + ";e"), -1112);
        due("5: the end", law(sixteen + ";"), -1112);
        due("5: behind the sixteenth", law(sixteen + ")"), -1111);
        due("5: still", x.count(2), 16);
    }

    private static void deals() {
        people(100, 50, 99990);
        plainYear(0, 5, 0);
        plainYear(10, 5, 1);
        due("6: 0", x.deals(0), -1);
        text("0a>b1");
        due("6: not so many", x.deals(21), -1);
        due("6: the tape stays", x.count(3), 20);
        due("6: one is done", x.deals(5), 1);
        due("6: the tape is empty", x.count(3), 0);
        for (int i = 0; i < 13; i++) x.feed(0, 0, 0, 0, 0);
        due("6: 161", x.deals(161), -1);
        due("6: 160 of no sense", x.deals(160), -1000);
        due("6: sold back at 0", deals("00b>a0"), 1);
        due("6: what can't be is left out", deals("0b>a1;0a>b51;0a>b49;10b>a0"), 2);
        due("6: coins", x.personIs(0, 0), 150);
        due("6: coins", x.personIs(1, 0), 0);
        due("6: hands", x.yearIs(0, 9), 4);
        due("6: 99999 at most stay", deals("10a>c0;10c>a150"), 2);
        due("6: coins at most", x.personIs(2, 0), 99999);
        due("6: all is paid", x.personIs(0, 0), 0);
        due("6: a person not told", deals("10a=d;10d=a"), 0);
        due("6: a year not told", deals("11a=b"), 0);
        due("6: a gift", deals("10a=b"), 1);
        due("6: owner", x.yearIs(10, 6), 1);
        due("6: a fault does nothing", deals("10b=a;9"), -1007);
        due("6: owner still", x.yearIs(10, 6), 1);
        law("n(z=0&p=2)");
        due("6: the law", deals("10b=c;10b>c0;10b]c0;10b>a0"), 1);
        law("n(p=o);n(a>0)");
        due("6: any n", judged("0b=a"), 0);
        law("n(c=99999|h>3)");
        due("6: the buyer's coins", judged("10a=c"), 0);
        due("6: the year's hands", judged("0b=a"), 0);
        dealFaults();
    }

    private static void dealFaults() {
        due("6: no year", deals("a>b1"), -1000);
        due("6: three digits", deals("001a>b1"), -1002);
        due("6: 40", deals("40"), -3000);
        due("6: 99 and more", deals("999"), -3000);
        due("6: 40 behind another", deals("0a=b;40a=b"), -3005);
        due("6: i", deals("0i=b"), -1001);
        due("6: A", deals("0A=b"), -1001);
        due("6: no such sign", deals("0a<b"), -1002);
        due("6: itself", deals("0b=b"), -6003);
        due("6: no price", deals("0a>b;"), -1004);
        due("6: no price of a pawn", deals("0a]bx"), -1004);
        due("6: five digits", deals("0a>b12345"), -1008);
        due("6: a price of a gift", deals("0a=b1"), -1004);
        due("6: a price of a fetched one", deals("0a[b1"), -1004);
        due("6: blank", deals("0a=b; 0b=a"), -1005);
        String sixteen = "0a=b;".repeat(16);
        due("6: a seventeenth", deals(sixteen + "40a=b"), -4080);
        due("6: no digit", deals(sixteen + "a"), -1080);
        due("6: the end", deals(sixteen), -1080);
        due("6: the first from the left", deals("0a=a;40"), -6003);
    }

    private static void pawns() {
        people(20, 100, 99999);
        plainYear(0, 5, 0);
        plainYear(1, 6, 0);
        due("6: pawned", deals("0a]b30"), 1);
        due("6: who holds it", x.yearIs(0, 7), 1);
        due("6: what must be paid", x.yearIs(0, 8), 30);
        due("6: owner still", x.yearIs(0, 6), 0);
        due("6: hands still", x.yearIs(0, 9), 1);
        due("6: age still", x.personIs(0, 1), 2);
        due("6: holds", x.personIs(1, 4), 1);
        due("6: the pawner holds none", x.personIs(0, 4), 0);
        due("6: coins", x.personIs(0, 0), 50);
        due("6: lender", x.personIs(1, 0), 70);
        due("6: pawned can't be dealt in", deals("0a>b1;0a=b;0a]c1;0b>a1"), 0);
        due("6: not fetched from another one", deals("0a[c"), 0);
        due("6: not fetched by another one", deals("0b[a;0c[b"), 0);
        law("i20(t=0);n(1=1)");
        x.days(1);
        due("6: it has grown", x.yearIs(0, 8), 50);
        due("6: n does not stop a fetch", deals("0a[b"), 1);
        due("6: all is paid", x.personIs(0, 0), 0);
        due("6: to the lender", x.personIs(1, 0), 120);
        due("6: free again", x.yearIs(0, 7), -2);
        due("6: nothing to pay", x.yearIs(0, 8), 0);
        due("6: n stops a pawn", deals("1a]b1"), 0);
        law("i1(1=1)");
        due("6: pawned for more", deals("1a]c9999;0a]b0"), 2);
        x.person(0, 9999);
        x.person(2, 99990);
        due("6: fetched, 99999 at most", deals("1a[c"), 1);
        due("6: lender at most", x.personIs(2, 0), 99999);
        x.days(1);
        x.person(0, 0);
        due("6: not as much", deals("0a[b"), 0);
        x.person(0, 1);
        due("6: as much", deals("0a[b"), 1);
    }

    private static void judgedDeals() {
        people(10, 10);
        plainYear(0, 5, 0);
        due("7: 0", x.judged(0), -1);
        due("7: not so many", x.judged(5), -1);
        due("7: all can", judged("0a>b10;0b>a20;0a=b"), 3);
        due("7: not the last", judged("0a>b10;0b>a21;0a=b"), 1);
        due("7: the tape is empty", x.count(3), 0);
        due("7: nothing is done", x.yearIs(0, 6), 0);
        due("7: nothing is paid", x.personIs(0, 0), 10);
        due("7: pawned and fetched", judged("0a]b10;0a[b;0a[b"), 2);
        due("7: a fault", judged("0a>b10;0b>a"), -1011);
        for (int i = 0; i < 13; i++) x.feed(0, 0, 0, 0, 0);
        due("7: 161", x.judged(161), -1);
    }

    private static void yearAndPerson() {
        people(7, 8, 9);
        x.year(4, 55, 1, 33, 5, true, 6);
        x.year(5, 56, 1, 64, 0, false, 0);
        int[] fresh = {55, 1, 33, 5, 1, 6, 1, -2, 0, 1};
        for (int what = 0; what < 10; what++) due("8: " + what, x.yearIs(4, what), fresh[what]);
        due("8: no deed", x.yearIs(5, 4), 0);
        due("8: 10", x.yearIs(4, 10), -1);
        due("8: 19", x.yearIs(4, 19), -1);
        due("8: -1", x.yearIs(4, -1), -1);
        due("8: hand 0", x.yearIs(4, 20), 1);
        due("8: no hand 1", x.yearIs(4, 21), -1);
        due("8: not told", x.yearIs(6, 0), -1);
        due("8: -1", x.yearIs(-1, 0), -1);
        due("8: 40", x.yearIs(40, 0), -1);
        for (int i = 0; i < 10; i++) due("8: to and fro", deals("4b=c;4c=b"), 2);
        due("8: 16 hands alone", x.yearIs(4, 9), 16);
        due("8: the last one", x.yearIs(4, 35), 2);
        due("8: none behind", x.yearIs(4, 36), -1);
        due("8: far behind", x.yearIs(4, 2147483647), -1);
        due("9: coins", x.personIs(1, 0), 8);
        due("9: age", x.personIs(1, 1), 2);
        due("9: knows", x.personIs(1, 2), 97);
        due("9: had", x.personIs(1, 3), 2);
        due("9: the other one had", x.personIs(2, 3), 1);
        due("9: but does not know", x.personIs(2, 2), 0);
        due("9: 5", x.personIs(1, 5), -1);
        due("9: -1", x.personIs(1, -1), -1);
        due("9: not told", x.personIs(3, 0), -1);
        due("9: 8", x.personIs(8, 0), -1);
        deals("4b=a");
        due("9: a hand beyond the sixteenth is not remembered", x.personIs(0, 3), 0);
    }

    private static void years() {
        people(1, 1);
        for (int y : new int[] {0, 19, 20, 39}) plainYear(y, y, 0);
        due("10: owns low", x.years(0, 0), 1 | 1 << 19);
        due("10: owns high", x.years(0, 1), 1 | 1 << 19);
        deals("19a=b;20a=b");
        due("10: owns low", x.years(0, 0), 1);
        due("10: owns high", x.years(0, 1), 1 << 19);
        due("10: had low", x.years(0, 2), 1 | 1 << 19);
        due("10: had high", x.years(0, 3), 1 | 1 << 19);
        due("10: the other one low", x.years(1, 2), 1 << 19);
        due("10: the other one high", x.years(1, 3), 1);
        due("10: 4", x.years(0, 4), -1);
        due("10: -1", x.years(0, -1), -1);
        due("10: not told", x.years(2, 0), -1);
    }

    private static void worthIs(String amount, int want) {
        due("11: " + amount, law("v" + amount + "(1=1)"), 1);
        due("11: " + amount, x.worth(7, 1), want);
    }

    private static void worthAndMay() {
        people(11, 222, 33);
        x.year(7, 42, 2, 0b111, 0b11, true, 3);
        x.year(8, 42, 1, 0b101000, 0, false, 3);
        x.year(9, 43, 1, 0b1, 0, false, 3);
        due("11: no law", x.worth(7, 1), 0);
        deals("7c=a");
        worthIs("y", 7);
        worthIs("d", 42);
        worthIs("l", 2);
        worthIs("o+10", 10);
        worthIs("s", 3);
        worthIs("m", 2);
        worthIs("k", 1);
        worthIs("h", 2);
        worthIs("p", 1);
        worthIs("a", 2);
        worthIs("c", 222);
        worthIs("e", 1);
        worthIs("z+5", 5);
        worthIs("t", 0);
        worthIs("1000", 999);
        worthIs("1-2", 0);
        worthIs("10-2-3", 5);
        worthIs("100/7/2", 7);
        worthIs("2+3*4", 14);
        worthIs("[2+3]*4", 20);
        worthIs("100%7*3", 6);
        worthIs("5+1/0", 0);
        worthIs("5+1%0", 0);
        worthIs("[0-7]/2+10", 7);
        worthIs("[0-7]%4+10", 7);
        worthIs("65536*32768/65536+40000", 999);
        worthIs("65535*65537+1", 0);
        worthIs("65536*65536+5", 5);
        deals("7a=b");
        due("11: its own skills do not count", law("ve(1=1)") == 1 ? x.worth(7, 1) : -9, 1);
        law("v1(y=8);v2(d=42);n(1=1);v3(1=1)");
        due("11: the first that holds", x.worth(8, 0), 1);
        due("11: the next one", x.worth(7, 0), 2);
        due("11: the last one", x.worth(9, 0), 3);
        due("11: not told", x.worth(6, 0), -1);
        due("11: nobody", x.worth(7, 3), -1);
        due("11: -1", x.worth(-1, 0), -1);
        due("11: 40", x.worth(40, 0), -1);
        due("11: 8", x.worth(7, 8), -1);
        mays();
    }

    private static void holds(String condition, int want) {
        due("12: " + condition, law("n(" + condition + ")"), 1);
        due("12: " + condition, x.may(7, 0, 100), 1 - want);
    }

    private static void mays() {
        holds("z=100", 1);
        holds("z>100", 0);
        holds("z<101", 1);
        holds("p=0&c=11&a=0", 1);
        holds("1=2|2=2", 1);
        holds("1=1|1/0=1", 1);
        holds("1/0=1|1=1", 0);
        holds("1=2&1/0=1|1=1", 1);
        holds("1=1&1/0=1|1=1", 0);
        holds("!1/0=1", 0);
        holds("!(1/0=1)|1=1", 0);
        holds("!(1=2&1%0=1)", 1);
        holds("!!1=1", 1);
        holds("!1=1&1=2", 0);
        holds("!(1=1&1=2)", 1);
        holds("(1=2|1=1)&(1=1|1=2)", 1);
        holds("1=2&1=1|1=1&1=1", 1);
        holds("1=1|1=1&1=2", 1);
        holds("1=1&1=2&1/0=1", 0);
        holds("1=2|1=1|1/0=1", 1);
        law("n(z>9998);n(z=5);v1(1=1)");
        due("12: 9999", x.may(7, 0, 9999), 0);
        due("12: 5", x.may(7, 0, 5), 0);
        due("12: 6", x.may(7, 0, 6), 1);
        due("12: 10000", x.may(7, 0, 10000), -1);
        due("12: -1", x.may(7, 0, -1), -1);
        due("12: not told", x.may(6, 0, 0), -1);
        due("12: nobody", x.may(7, 3, 0), -1);
        due("12: n alone is asked", x.may(7, 1, 9998), 1);
    }

    private static void clashes() {
        people(1, 1, 1, 1);
        x.year(0, 10, 0, 0, 2, false, 0);
        x.year(1, 10, 1, 0, 0, false, 0);
        x.year(2, 10, 2, 0, 1, false, 0);
        x.year(3, 11, 1, 0, 0, false, 0);
        x.year(4, 10, 0, 0, 0, false, 0);
        deals("1b=d;0a=d;2c=d;3b=d");
        due("13: 0 with 1, 0 with 2", x.clashes(3), 2);
        deals("4a=d");
        due("13: 4 with 2; one liver is no clash", x.clashes(3), 3);
        due("13: none", x.clashes(0), 0);
        due("13: not told", x.clashes(4), -1);
        due("13: 8", x.clashes(8), -1);
        x.year(1, 10, 1, 0, 1, false, 0);
        deals("1b=d");
        due("13: both have met: 0 with 1 no more, 1 with 4", x.clashes(3), 3);
    }

    private static void givenBack() {
        people(1, 1, 1, 1);
        x.year(5, 10, 0, 0, 2, false, 0);
        x.year(8, 10, 1, 0, 0, false, 0);
        x.year(9, 10, 2, 0, 1, false, 0);
        x.year(1, 9, 2, 0, 1, false, 0);
        deals("5a=d;8b=d;9c=d;1c=d");
        due("14: how many", x.givenBack(3, 99, 0), 1);
        due("14: which", x.givenBack(3, 99, 1), 1);
        due("14: place 0", x.givenBack(3, 0, 2), 5);
        due("14: place 2", x.givenBack(3, 2, 2), 9);
        due("14: place 3", x.givenBack(3, 3, 2), -2);
        due("14: place -1", x.givenBack(3, -1, 2), -2);
        due("14: what 3", x.givenBack(3, 0, 3), -1);
        due("14: what -1", x.givenBack(3, 0, -1), -1);
        due("14: not told", x.givenBack(4, 0, 0), -1);
        due("14: no clash, how many", x.givenBack(0, 0, 0), 0);
        due("14: no clash, no place", x.givenBack(0, 0, 2), -2);
        people(1, 1, 1);
        for (int i = 0; i < 7; i++) {
            x.year(2 * i, i, 0, 0, 2, false, 0);
            x.year(2 * i + 1, i, 1, 0, 0, false, 0);
            due("14: both to c", deals(2 * i + "a=c;" + (2 * i + 1) + "b=c"), 2);
        }
        due("13: seven", x.clashes(2), 7);
        due("14: the lowest twelve alone", x.givenBack(2, 0, 0), 6);
        due("14: the least bits", x.givenBack(2, 0, 1), 0b010101010101);
        due("14: place 11", x.givenBack(2, 11, 2), 11);
        due("14: place 12", x.givenBack(2, 12, 2), -2);
    }

    private static void deeds() {
        people(9, 9, 9);
        x.year(0, 5, 0, 0, 0, true, 0);
        x.year(1, 5, 0, 0, 0, false, 0);
        due("15: by rule 1", x.deeds(0, 1), 1);
        due("15: what is no deed does not count", x.deeds(0, 0), 1);
        deals("0a=b;0b]c0");
        due("15: liver", x.deeds(0, 0), 1);
        due("15: not the owner of a pawned one", x.deeds(1, 1), 0);
        due("15: who holds it", x.deeds(2, 1), 1);
        due("15: the first hand has 1, of the same date", x.deeds(0, 2), 1);
        deals("1a=c");
        due("15: the first hand has none, the second one has 0", x.deeds(1, 2), 1);
        due("15: not the liver then", x.deeds(0, 2), 0);
        due("15: who holds it is no hand", x.deeds(2, 2), 0);
        due("15: rule 3", x.deeds(0, 3), -1);
        due("15: rule -1", x.deeds(0, -1), -1);
        due("15: not told", x.deeds(3, 0), -1);
        people(9, 9, 9);
        x.year(0, 5, 0, 0, 0, true, 0);
        for (int i = 0; i < 8; i++) deals("0a=b;0b=a");
        deals("0a=c");
        due("15: nobody of the hands that are remembered: its liver", x.deeds(0, 2), 1);
        due("15: the owner is not remembered", x.deeds(2, 2), 0);
    }

    private static void taught() {
        people(30, 5, 5, 5);
        x.year(0, 1, 1, 0b0011, 0, false, 0);
        x.year(1, 2, 1, 0b0100, 0, false, 0);
        x.year(2, 3, 2, 0b0111, 0, false, 0);
        x.year(3, 4, 2, 0b1000, 0, false, 0);
        x.year(4, 5, 0, 0b10000, 0, false, 0);
        law("v10(y=0);v20(y=1);v30(y=2);v1(y=3)");
        due("16: 0 and 1 cost as much as 2", x.taught(0, 7, 0), 30);
        due("16: the fewest years", x.taught(0, 7, 1), 1);
        due("16: as much", x.taught(0, 7, 2), 1);
        due("16: one more", x.taught(0, 15, 0), 31);
        due("16: not as much", x.taught(0, 15, 2), 0);
        due("16: two", x.taught(0, 15, 1), 2);
        due("16: known", x.taught(0, 16, 0), 0);
        due("16: known, none", x.taught(0, 16, 1), 0);
        due("16: nothing asked", x.taught(0, 0, 2), 1);
        due("16: nobody teaches", x.taught(0, 32, 0), -2);
        due("16: nobody teaches", x.taught(0, 32, 2), -2);
        due("16: its own are known", x.taught(1, 3, 0), 0);
        law("v10(y=0);v20(y=1);v30(y=2);v1(y=3);n(z=30&p=0)");
        due("16: n with the price", x.taught(0, 7, 1), 2);
        law("v10(y=0);v20(y=1);vp(y=2)");
        due("16: the owner asks", x.taught(0, 7, 0), 2);
        deals("2c]b1");
        due("16: pawned", x.taught(0, 7, 0), 30);
        due("16: skills -1", x.taught(0, -1, 0), -1);
        due("16: skills 4096", x.taught(0, 4096, 0), -1);
        due("16: what 3", x.taught(0, 1, 3), -1);
        due("16: what -1", x.taught(0, 1, -1), -1);
        due("16: not told", x.taught(4, 1, 0), -1);
        twelveTaught();
    }

    private static void twelveTaught() {
        people(0, 0);
        for (int i = 0; i < 12; i++) x.year(i, 0, 1, 1 << i, 0, false, 0);
        law("v999(1=1)");
        due("16: twelve years", x.taught(0, 4095, 1), 12);
        due("16: at most", x.taught(0, 4095, 0), 12 * 999);
        law("v0(1=1)");
        due("16: for nothing", x.taught(0, 4095, 2), 1);
        x.year(12, 0, 1, 4095, 0, false, 0);
        due("16: one alone", x.taught(0, 4095, 1), 1);
    }

    private static void share() {
        people(1, 1, 1, 1, 1, 1);
        x.year(0, 0, 0, 0b0111, 0, false, 0);
        x.year(1, 0, 1, 0b0011, 0, false, 0);
        x.year(2, 0, 2, 0b0001, 0, false, 0);
        due("17: 100 / 3 + 50 + 100 above", x.share(7, 0, 0), 550);
        due("17: below", x.share(7, 0, 1), 3);
        due("17: 100 / 3 + 50 above", x.share(7, 1, 0), 250);
        due("17: below", x.share(7, 1, 1), 3);
        due("17: 100 / 3 above", x.share(7, 2, 0), 100);
        due("17: alone above", x.share(1, 0, 0), 300);
        due("17: alone below", x.share(1, 0, 1), 1);
        due("17: nothing above", x.share(9, 3, 0), 0);
        due("17: nothing below", x.share(9, 3, 1), 1);
        due("17: five", x.share(31, 0, 0), 550);
        due("17: six", x.share(63, 0, 0), -1);
        due("17: none", x.share(0, 0, 0), -1);
        due("17: not of them", x.share(6, 0, 0), -1);
        due("17: not told", x.share(65, 0, 0), -1);
        due("17: 256", x.share(257, 0, 0), -1);
        due("17: -1", x.share(-1, 0, 0), -1);
        due("17: person 8", x.share(7, 8, 0), -1);
        due("17: person -1", x.share(7, -1, 0), -1);
        due("17: what 2", x.share(7, 0, 2), -1);
        due("17: what -1", x.share(7, 0, -1), -1);
    }

    private static int sold(int people, int what, int... row) {
        return x.sold(bytes(row), people, what);
    }

    private static void sold() {
        people(1, 1, 1, 1);
        plainYear(0, 0, 3);
        plainYear(1, 0, 3);
        plainYear(2, 0, 0);
        plainYear(4, 0, 0);
        law("v50(y=0&p=0);v40(y=0&p=1);v30(y=1&p=0);v10(y=1&p=1);v5(y=2)");
        due("18: together", sold(3, 10, 0, 1), 70);
        due("18: the first one", sold(3, 0, 0, 1), 1);
        due("18: the second one", sold(3, 1, 0, 1), 0);
        due("18: what b pays: 50 instead of 30", sold(3, 21, 0, 1), 20);
        due("18: what a pays: 40 instead of 40", sold(3, 20, 0, 1), 0);
        due("18: one year", sold(3, 20, 0), 40);
        due("18: who gets nothing pays nothing", sold(3, 21, 0), 0);
        due("18: nobody buys its own", sold(9, 0, 2), 3);
        due("18: nobody", sold(1, 0, 2), 8);
        due("18: worth nothing, the least row", sold(7, 0, 4), 1);
        due("18: the last for nothing, each at most once", sold(7, 1, 2, 4), 2);
        due("18: nobody is left", sold(6, 1, 2, 4, 1), 8);
        due("18: together without that one", sold(6, 10, 2, 4, 1), 15);
        due("18: nobody at all", sold(0, 0, 2), 8);
        due("18: not among them", sold(3, 22, 0), -3);
        due("18: place 1 of 1", sold(3, 1, 0), -3);
        due("18: place -1", sold(3, -1, 0), -3);
        due("18: 28", sold(3, 28, 0), -3);
        due("18: a person not told", sold(17, 10, 0), -3);
        due("18: 256", sold(256, 10, 0), -3);
        due("18: -1", sold(-1, 10, 0), -3);
        due("18: year not told", sold(3, 10, 3), -2);
        due("18: year 40", sold(3, 10, 40), -2);
        due("18: byte 255", sold(3, 10, 255), -2);
        due("18: one twice", sold(3, 10, 0, 1, 0), -2);
        due("18: -2 ahead of -3", sold(17, 99, 3), -2);
        due("18: the tape is empty", x.count(3), 0);
        deals("1d]a1");
        due("18: pawned", sold(3, 10, 1), -2);
        bytes(0, 2);
        due("18: n 0", x.sold(0, 3, 10), -1);
        due("18: n 7", x.sold(7, 3, 10), -1);
        due("18: the tape stays", x.count(3), 20);
        due("18: then it is read", x.sold(2, 3, 10), 55);
    }

    private static int ring(int what, int... row) {
        return x.ring(bytes(row), what);
    }

    private static void ring() {
        people(1, 1, 1, 1, 1, 1, 1, 1);
        for (int p = 0; p < 8; p++) plainYear(10 + p, 0, p);
        plainYear(20, 0, 0);
        law("v9(p=0&y=11);v9(p=1&y=12);v9(p=2&y=10);v9(p=3&y=10);v8(p=3&y=13)");
        due("19: a ring of three", ring(10, 10, 11, 12, 13), 3);
        due("19: a gets b's", ring(0, 10, 11, 12, 13), 1);
        due("19: b gets c's", ring(1, 10, 11, 12, 13), 2);
        due("19: c gets a's", ring(2, 10, 11, 12, 13), 0);
        due("19: d is left with its own", ring(3, 10, 11, 12, 13), 3);
        due("19: places are of the row", ring(0, 13, 12, 11, 10), 0);
        due("19: places are of the row", ring(3, 13, 12, 11, 10), 2);
        law("v0(1=1)");
        due("19: all alike: the lowest place, then the next one", ring(10, 11, 10), 0);
        law("v5(y=10);v4(1=1)");
        due("19: one keeps its own, the others want the lowest place", ring(10, 12, 11, 10), 0);
        law("v9(p=0&y=17);v9(p=7&y=10)");
        due("19: eight", ring(10, 10, 11, 12, 13, 14, 15, 16, 17), 2);
        due("19: the last gets the first one's", ring(7, 10, 11, 12, 13, 14, 15, 16, 17), 0);
        due("19: place 8", ring(8, 10, 11, 12, 13, 14, 15, 16, 17), -3);
        law("v9(y=[p+1]%8+10)");
        due("19: a ring of eight", ring(10, 10, 11, 12, 13, 14, 15, 16, 17), 8);
        due("19: each the next one's", ring(6, 10, 11, 12, 13, 14, 15, 16, 17), 7);
        law("v0(1=1)");
        due("19: eight rounds", ring(10, 10, 11, 12, 13, 14, 15, 16, 17), 0);
        due("19: the last one alone", ring(7, 10, 11, 12, 13, 14, 15, 16, 17), 7);
        due("19: alone", ring(0, 10), 0);
        due("19: place 1 of 1", ring(1, 10), -3);
        due("19: place -1", ring(-1, 10), -3);
        due("19: 11", ring(11, 10), -3);
        due("19: one owner twice", ring(10, 10, 20), -2);
        due("19: one year twice", ring(10, 10, 10), -2);
        due("19: not told", ring(10, 10, 0), -2);
        due("19: 41", ring(10, 41), -2);
        due("19: -2 ahead of -3", ring(9, 41), -2);
        deals("11b]c1");
        due("19: pawned", ring(10, 10, 11), -2);
        due("19: the tape is empty", x.count(3), 0);
        bytes(10);
        due("19: n 0", x.ring(0, 10), -1);
        due("19: n 9", x.ring(9, 10), -1);
        due("19: the tape stays", x.count(3), 20);
    }

    private static void forged() {
        people(1);
        x.year(0, 99, 0, 0, 0, false, 9);
        x.year(1, 99, 0, 0, 0, false, 9);
        x.year(2, 99, 0, 0, 0, false, 8);
        due("20: the last date, the last mark", x.forged(0, 0), 1);
        due("20: ways", x.forged(0, 1), 1);
        due("20: not the last mark", x.forged(0, 2), 0);
        due("20: the other one", x.forged(2, 2), 1);
        x.year(1, 99, 0, 0, 0, false, 7);
        due("20: the last mark, too", x.forged(0, 2), 1);
        due("20: three ways", x.forged(0, 1), 3);
        people(1);
        due("20: none", x.forged(0, 0), 0);
        due("20: one way", x.forged(0, 1), 1);
        x.year(0, 5, 0, 0, 0, false, 1);
        x.year(1, 5, 0, 0, 0, false, 1);
        x.year(2, 5, 0, 0, 0, false, 2);
        x.year(3, 6, 0, 0, 0, false, 2);
        x.year(4, 7, 0, 0, 0, false, 3);
        x.year(5, 7, 0, 0, 0, false, 4);
        due("20: fewest", x.forged(-9, 0), 2);
        due("20: ways", x.forged(-9, 1), 2);
        int[] may = {0, 0, 1, 0, 1, 1};
        for (int y = 0; y < 6; y++) due("20: may " + y, x.forged(y, 2), may[y]);
        due("20: not told", x.forged(6, 2), -1);
        due("20: 40", x.forged(40, 2), -1);
        due("20: -1", x.forged(-1, 2), -1);
        due("20: what 3", x.forged(0, 3), -1);
        due("20: what -1", x.forged(0, -1), -1);
        for (int y = 0; y < 40; y++) x.year(y, y / 3, 0, 0, 0, false, y % 3);
        due("20: two of each three, none of the last one", x.forged(0, 0), 26);
        due("20: three ways each", x.forged(0, 1), 1594323);
    }

    private static void dealtIn() {
        people(1, 1);
        x.year(0, 0, 0, 0, 0, true, 0);
        x.year(1, 0, 0, 0, 0, true, 0);
        x.year(2, 0, 0, 0, 0, false, 0);
        for (int i = 0; i < 10; i++) deals("0a=b;0b=a;2a=b;2b=a");
        deals("1a=b");
        due("21: 0", x.dealtIn(0), 2);
        due("21: 1", x.dealtIn(1), 2);
        due("21: 2", x.dealtIn(2), 2);
        due("21: 3", x.dealtIn(3), 1);
        due("21: 16", x.dealtIn(16), 1);
        due("21: 17", x.dealtIn(17), -1);
        due("21: -1", x.dealtIn(-1), -1);
    }

    private static void days() {
        people(0, 500, 500);
        plainYear(0, 5, 0);
        plainYear(1, 6, 0);
        plainYear(2, 7, 0);
        deals("0a]b10;1a]c0;2a]c200");
        law("i5(y=0);i99(y=1);iz(y=2&a=2);i1(y=2)");
        due("22: 0", x.days(0), -1);
        due("22: 101", x.days(101), -1);
        due("22: -1", x.days(-1), -1);
        due("22: no day went by", x.count(5), 0);
        due("22: none falls", x.days(1), 0);
        due("22: grown", x.yearIs(0, 8), 15);
        due("22: lent 0", x.yearIs(1, 8), 99);
        due("22: little", x.yearIs(2, 8), 201);
        due("22: a fall", x.days(1), 1);
        due("22: then the age has changed, z is what was lent, 99 at most", x.yearIs(2, 8), 300);
    }

    private static void fortunes() {
        due("22: owner of the fallen one", x.yearIs(0, 6), 1);
        due("22: behind its hands", x.yearIs(0, 21), 1);
        due("22: not pawned any more", x.yearIs(0, 7), -2);
        due("22: nothing to fetch", x.yearIs(0, 8), 0);
        due("22: today", x.count(5), 2);
        due("22: not twice yet", x.days(1), 0);
        due("22: grown", x.yearIs(2, 8), 399);
        due("22: twice and more", x.days(1), 1);
        due("22: fallen so far", x.count(8), 2);
        due("22: lent 0 never falls", x.days(100), 0);
        due("22: still pawned", x.yearIs(1, 7), 2);
        due("22: what it has grown", x.yearIs(1, 8), 99 * 104);
        for (int i = 0; i < 10; i++) x.days(100);
        due("22: 99999 at most", x.yearIs(1, 8), 99999);
        x = new YearTrade();
        x.person(1, 0);
        x.person(3, 99990);
        law("f3(1=1);g7+t(1=1)");
        due("22: a day", x.days(1), 0);
        due("22: X after two draws, 39022 and 61087", x.count(4), 61087);
        due("22: draw 2 is below 3", x.personIs(1, 0), 7);
        due("22: draw 7 is not", x.personIs(3, 0), 99990);
        x.seed(1);
        law("f2(p=1);f8(p=3);g9+t(1=1)");
        x.days(1);
        due("22: draw 2 is not below 2", x.personIs(1, 0), 7);
        due("22: 99999 at most", x.personIs(3, 0), 99999);
        law("f10(1=1);gy+d+l+o+s+m+k+h+e+z+p+c+a+t(p=1)");
        x.days(1);
        due("22: only t p a c are told", x.personIs(1, 0), 7 + 1 + 7 + 0 + 2);
    }

    private static void tried() {
        people(0, 500);
        plainYear(0, 5, 0);
        deals("0a]b10");
        law("i5(1=1);f10(1=1);g1(1=1)");
        due("23: a day, falls", x.tried(1, 0), 0);
        due("23: two days, falls", x.tried(2, 0), 1);
        due("23: coins", x.tried(2, 1), 504);
        due("23: age", x.tried(2, 10), 0);
        due("23: age", x.tried(2, 11), 1);
        due("23: age before", x.tried(1, 10), 1);
        due("23: 100 days", x.tried(100, 1), 700);
        due("23: not told", x.tried(2, 12), -1);
        due("23: 18", x.tried(2, 18), -1);
        due("23: 9", x.tried(2, 9), -1);
        due("23: 2", x.tried(2, 2), -1);
        due("23: -1", x.tried(2, -1), -1);
        due("23: 0 days", x.tried(0, 0), -1);
        due("23: 101 days", x.tried(101, 0), -1);
        due("23: today", x.count(5), 0);
        due("23: X", x.count(4), 1);
        due("23: fallen", x.count(8), 0);
        due("23: pawned", x.yearIs(0, 8), 10);
    }

    private static void inOrders() {
        people(0, 0, 10);
        plainYear(0, 5, 0);
        plainYear(1, 6, 0);
        String deals = "0b>a10;1a>c10;1c=b;0a=b";
        due("24: whether", inOrder(deals, -1), 1);
        due("24: nothing is done", x.yearIs(1, 6), 0);
        int[] order = {1, 2, 3, 0};
        for (int i = 0; i < 4; i++) due("24: the order", inOrder(deals, i), order[i]);
        due("24: no order, a has no coins", inOrder("0b>a10;0a=b", -1), 0);
        due("24: no order, no place", inOrder("0b>a10;0a=b", 0), -2);
        due("24: -3 ahead of -2", inOrder("0b>a10;0a=b", 2), -3);
        due("24: what -2", inOrder("0b>a10;0a=b", -2), -3);
        String six = "0a=b;0b=c;0c=a;0a=c;0c=b;0b=a";
        for (int i = 0; i < 6; i++) due("24: as they stand", inOrder(six, i), i);
        String back = "0b=a;0c=b;0a=c;0b=c;0a=b;0c=a";
        int[] least = {2, 1, 0, 4, 3, 5};
        for (int i = 0; i < 6; i++) due("24: least row", inOrder(back, i), least[i]);
        due("24: seven", inOrder(six + ";0a=b", -1), -3);
        due("24: a fault ahead", inOrder(six + ";0a=b;0", 0), -1036);
        due("24: n 0", x.inOrder(0, -1), -1);
        text("0a=b");
        due("24: not so many", x.inOrder(21, -1), -1);
        due("24: the tape stays", x.count(3), 20);
        due("24: then it is read", x.inOrder(4, -1), 1);
        due("24: the tape is empty", x.count(3), 0);
        for (int i = 0; i < 13; i++) x.feed(0, 0, 0, 0, 0);
        due("24: 161", x.inOrder(161, -1), -1);
        waysBack();
    }

    private static void order(String why, String deals, int... row) {
        for (int i = 0; i < row.length; i++) due("24: " + why + ", place " + i, inOrder(deals, i), row[i]);
    }

    /** The lowest ACT leads nowhere at first: what it has done must be as before when the next one is tried. */
    private static void waysBack() {
        people(0, 10, 0, 10);
        plainYear(0, 5, 0);
        plainYear(1, 5, 2);
        order("the owner is as before", "0a=b;0a=c;0c=a", 1, 2, 0);
        order("it is not pawned, as before", "0a]b0;0a=c;0c=a", 1, 2, 0);
        order("the buyer's coins are as before", "0a>b10;1c>b10;1b>d10", 1, 2, 0);
        order("fetched only once it is pawned", "0a[b;0a]b10", 1, 0);
        law("n(y=1&c>0)");
        order("the seller's coins are as before", "0a>b10;1c=a", 1, 0);
        law("n(h=2&p=2)");
        order("the hands are as before", "0a=b;0a=c;0c=a", 1, 2, 0);
        law("n(h=0)");
        order("no hand is lost", "0a=b;0a=c;0c=a", 1, 2, 0);
        law("n(h=9)");
        deals("0a]b5");
        order("what must be paid is as before", "0a[b;1c>a5;1a>d10", 1, 2, 0);
        due("24: nothing is done", x.yearIs(0, 8), 5);
        due("24: nothing is paid", x.personIs(0, 0), 5);
    }

    private static void common() {
        people(1, 1, 1);
        x.year(0, 50, 0, 0b011, 0, false, 0);
        x.year(1, 40, 0, 0b110, 0, false, 0);
        x.year(2, 30, 1, 0b010, 0, false, 0);
        due("25: skills", x.common(0, 1, 0), 2);
        due("25: no years", x.common(0, 1, 1), 0);
        due("25: no date", x.common(0, 1, 2), -2);
        deals("0a=b;1a=b");
        due("25: skills now", x.common(0, 1, 0), 0);
        due("25: years", x.common(1, 0, 1), 2);
        due("25: the first date", x.common(1, 0, 2), 40);
        due("25: one twice", x.common(0, 0, 1), -1);
        due("25: what 3", x.common(0, 1, 3), -1);
        due("25: what -1", x.common(0, 1, -1), -1);
        due("25: not told", x.common(0, 3, 0), -1);
        due("25: not told", x.common(3, 0, 0), -1);
    }

    private static void linked() {
        people(1, 1, 1, 1, 1, 1);
        plainYear(0, 0, 0);
        plainYear(1, 0, 0);
        plainYear(2, 0, 2);
        plainYear(3, 0, 1);
        deals("0a=c;1a=b;2c=d;3b=d");
        due("26: a to d", x.linked(0, 3, -1), 2);
        due("26: the first one", x.linked(0, 3, 0), 0);
        due("26: the least row", x.linked(0, 3, 1), 1);
        due("26: the last one", x.linked(0, 3, 2), 3);
        due("26: no place", x.linked(0, 3, 3), -3);
        due("26: place -2", x.linked(0, 3, -2), -3);
        due("26: the same one", x.linked(4, 4, -1), 0);
        due("26: the same one", x.linked(4, 4, 0), 4);
        due("26: the same one, no place", x.linked(4, 4, 1), -3);
        due("26: not linked", x.linked(0, 4, -1), -2);
        due("26: not linked ahead of no place", x.linked(0, 4, 99), -2);
        due("26: not told", x.linked(0, 6, -1), -3);
        due("26: not told", x.linked(6, 6, 0), -3);
        due("26: -1", x.linked(-1, 0, 0), -3);
        deals("3d=e");
        due("26: by one year of three hands", x.linked(1, 4, -1), 1);
        plainYear(4, 0, 5);
        deals("4f=e");
        due("26: a b e f", x.linked(0, 5, -1), 3);
        due("26: b", x.linked(0, 5, 1), 1);
        due("26: e", x.linked(0, 5, 2), 4);
    }

    private static void regime() {
        people(1, 1);
        x.year(0, 0, 0, 0b0011, 0, false, 0);
        x.year(1, 0, 0, 0b0110, 0, false, 0);
        x.year(2, 99, 0, 0b0101, 0, false, 0);
        x.year(3, 50, 1, 0b1000, 0, false, 0);
        due("27: one date, each skill once", x.regime(0, 0, 0), 13);
        due("27: all dates, each skill once", x.regime(0, 0, 99), 23);
        due("27: the last one", x.regime(0, 99, 99), 12);
        due("27: between", x.regime(0, 1, 98), 0);
        due("27: another one", x.regime(1, 1, 98), 11);
        due("27: from -1", x.regime(0, -1, 5), -1);
        due("27: to 100", x.regime(0, 0, 100), -1);
        due("27: below", x.regime(0, 6, 5), -1);
        due("27: not told", x.regime(2, 0, 5), -1);
    }

    private static void seed() {
        people(1);
        yes("28: 0", x.seed(0));
        due("28: X", x.count(4), 0);
        yes("28: 65535", x.seed(65535));
        due("28: X", x.count(4), 65535);
        no("28: 65536", x.seed(65536));
        no("28: -1", x.seed(-1));
        due("28: X stays", x.count(4), 65535);
        x.days(1);
        due("28: from there", x.count(4), (25173L * 65535 + 13849) % 65536);
    }

    private static void keepAndUndo() {
        people(30, 30);
        due("29: none", x.keep(), 0);
        plainYear(0, 1, 0);
        plainYear(39, 1, 0);
        deals("39a]b10");
        x.seed(77);
        due("29: two", x.keep(), 2);
        law("i10(1=1)");
        x.person(5, 5);
        plainYear(1, 1, 5);
        deals("0a=b");
        plainYear(39, 7, 1);
        yes("22: the same pawn by another liver", x.year(39, 1, 1, 3, 1, true, 4));
        due("30: another hand", x.yearIs(39, 20), 1);
        deals("39b]a0;39b[a;39b=a;39a]b10");
        due("22: a fall", x.days(3), 1);
        text("left");
        yes("30: undone", x.undo());
        due("30: people", x.count(0), 3);
        due("30: years", x.count(1), 2);
        due("30: the law stays", x.count(2), 1);
        due("30: the tape stays", x.count(3), 20);
        due("30: X", x.count(4), 77);
        due("30: today", x.count(5), 0);
        due("30: pawns", x.count(6), 1);
        due("30: coins", x.count(7), 60);
        due("30: the fallen are not undone", x.count(8), 1);
        due("30: owner", x.yearIs(0, 6), 0);
        due("30: hands", x.yearIs(0, 9), 1);
        due("30: what must be paid", x.yearIs(39, 8), 10);
        due("30: the hand from before", x.yearIs(39, 20), 0);
        due("30: hands from before", x.yearIs(39, 9), 1);
        int[] before = {1, 0, 0, 0, 0, 0, 0, 1, 10, 1};
        for (int what = 0; what < 10; what++) due("30: year 39, " + what, x.yearIs(39, what), before[what]);
        due("22: the same fall again", x.days(1), 1);
        yes("30: once more", x.undo());
        due("30: pawns again", x.count(6), 1);
        due("30: the fallen are two now", x.count(8), 2);
    }

    private static void check() {
        people(1, 1, 1);
        plainYear(0, 1, 2);
        plainYear(2, 1, 1);
        due("31: right", check(2, 0, 1), -1);
        due("31: the tape is empty", x.count(3), 0);
        due("31: the first one", check(0, 0, 0), 0);
        due("31: not told is 0", check(2, 1, 0), 1);
        due("31: the highest byte counts", check(2, 0, 0x01000001), 2);
        due("31: the second byte counts", check(2, 0, 0x00010001), 2);
        due("31: the third byte counts", check(2, 0, 0x00000101), 2);
        due("31: the signs, too", check(2, 0, 0x81000001), 2);
        due("31: all", check(new int[40]), 0);
        text("left");
        due("31: n 41", x.check(41), -2);
        due("31: n -1", x.check(-1), -2);
        due("31: not so many", x.check(6), -2);
        due("31: the tape stays", x.count(3), 20);
        due("31: none is right", x.check(0), -1);
        due("31: empty then", x.count(3), 0);
        int[] owners = new int[40];
        owners[0] = 2;
        owners[2] = 1;
        due("31: forty", check(owners), -1);
        owners[39] = 1;
        due("31: the last one", check(owners), 39);
    }

    private static void count() {
        people(99999, 99999, 99999, 99999, 99999, 99999, 99999, 99999);
        plainYear(0, 0, 0);
        deals("0a]b9999");
        due("32: people", x.count(0), 255);
        due("32: years", x.count(1), 1);
        due("32: pawns", x.count(6), 1);
        due("32: coins", x.count(7), 8 * 99999 - 9999);
        due("32: 9", x.count(9), -1);
        due("32: -1", x.count(-1), -1);
    }
}
