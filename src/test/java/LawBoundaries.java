/** Boundary cases of THE LAW, sentence by sentence: promises 5, 11 and 12. */
public final class LawBoundaries extends Sentences {
    private static final String SIXTEEN = "n(1=1);".repeat(16);

    public static void main(String[] args) {
        lengths();
        oneBefore();
        clausesAndPieces();
        partsAndTerms();
        ends();
        numbersAndLetters();
        open();
        openTill();
        clauses();
        worthAmounts();
        pawnAmounts();
        fortuneTenths();
        fortuneAmounts();
        firstThatHolds();
        lettersOfYears();
        lettersOfPeople();
        lettersNotTold();
        fromTheLeft();
        comparisons();
        bits32();
        refused();
        askedAsMatters();
        worthBounds();
        mayBounds();
        end();
    }

    /** One PERSON with a YEAR, of whom "may" tells whether a condition holds. */
    private static void holds(String condition, boolean want) {
        law("n(" + condition + ")", 1);
        due(condition, x.may(0, 0, 0), want ? 0 : 1);
    }

    private static void lengths() {
        says("by the first n bytes of the tape (1 to 240); NONE: no such n");
        fill(13);
        for (int n : new int[] {0, -1, 241, 260, LOW, HIGH}) due("n " + n, x.law(n), -1);
        count(3, 260);
        due("240", x.law(240), -1000);
        count(3, 0);
        due("1", x.law(text("n")), -1001);
        says("NONE: it has not so many (the tape stays)");
        due("of an empty tape", x.law(1), -1);
        text("n(1=1);n(1=1);n(1=1)");
        due("21 of 20", x.law(21), -1);
        count(3, 20);
        due("20 of 20", x.law(20), 3);
        says("by the first n bytes of the tape (empty then)");
        text("n(1=1);n(1=1);n(1=1);n(1=1)");
        due("13 of 40", x.law(13), 2);
        count(3, 0);
        law("w", -1000);
        count(3, 0);
        says("a TEXT of at most 240 bytes", 0);
        year(0, 0, 0);
        String sum = "v" + "1+".repeat(116);
        law(sum + "1(1=1)", 1);
        due("239 bytes", x.worth(0, 0), 117);
        law(sum + "10(1=1)", 1);
        due("240 bytes", x.worth(0, 0), 126);
        law(sum + "20(1=1|", -1240);
        law("v9(1=1" + "&1=1".repeat(58) + "a", -1238);
        due("the one before", x.worth(0, 0), 126);
        law("v8(1=1" + "&1=1".repeat(58) + ")", 1);
        due("59 pieces", x.worth(0, 0), 8);
        law("v7(1=1" + "&1=1".repeat(56) + "&111=1)", 1);
        due("the last piece does not hold", x.worth(0, 0), 0);
    }

    private static void oneBefore() {
        says("in place of the one before", 0);
        year(0, 0, 0);
        law("v7(1=1);n(1=1);n(1=1)", 3);
        law("i7(1=1)", 1);
        count(2, 1);
        due("v is none now", x.worth(0, 0), 0);
        due("n is none now", x.may(0, 0, 0), 1);
        says("a FAULT: (the one before stays)", 0);
        year(0, 0, 0);
        law("v7(1=1);v8(1=1)", 2);
        law("v9(1=1);n(1=1);v9(1=1);", -1023);
        count(2, 2);
        due("v", x.worth(0, 0), 7);
        due("n", x.may(0, 0, 0), 1);
        law("v9(1=1)", 1);
        due("v", x.worth(0, 0), 9);
        says("NONE: (the one before stays)", 0);
        year(0, 0, 0);
        law("v7(1=1)", 1);
        text("v9(1=1)");
        due("21", x.law(21), -1);
        due("0", x.law(0), -1);
        count(2, 1);
        due("v", x.worth(0, 0), 7);
        says("a FAULT: -1000 times its number, less its place");
        law("w", -1000);
        law("n(1=1);" + "n(1=1);".repeat(14) + "w", -1105);
        law("n(123456", -2007);
        law("n(!!!!!!", -5007);
        law(SIXTEEN + "n", -4112);
    }

    private static void clausesAndPieces() {
        says("no blanks");
        law(" n(1=1)", -1000);
        law("n (1=1)", -1001);
        law("n(1 =1)", -1003);
        law("n(1=1) ", -1006);
        law("v1 (1=1)", -1002);
        says("CLAUSES with a ; between two");
        law(";n(1=1)", -1000);
        law("n(1=1)n(1=1)", -1006);
        law("n(1=1),n(1=1)", -1006);
        law("n(1=1);;n(1=1)", -1007);
        law("n(1=1);n(1=1)", 2);
        says("a letter, E, and (C)");
        for (String kind : "v i f g".split(" ")) {
            law(kind + "1(1=1)", 1);
            law(kind + "(1=1)", -1001);
            law(kind + "1;", -1002);
            law(kind + "1=1", -1002);
        }
        for (String kind : "w V N 1 ( t p ! h o".split(" ")) law(kind + "1(1=1)", -1000);
        says("of n only (C)");
        law("n(1=1)", 1);
        law("n1(1=1)", -1001);
        law("nt(1=1)", -1001);
        says("a PIECE: !PIECE, (C), or E, one of < > =, and E");
        for (String sign : "< > =".split(" ")) law("n(1" + sign + "1)", 1);
        law("n(1==1)", -1004);
        law("n(1<=1)", -1004);
        law("n(1=1=1)", -1005);
        law("n(1)", -1003);
        law("n(1&1=1)", -1003);
        law("n(=1)", -1002);
        law("n(1=)", -1004);
        law("n()", -1002);
        law("n((1=1)=1)", -1007);
        law("n((1)=1)", -1004);
        law("n(1=(1))", -1004);
        law("n(1=!1)", -1004);
        law("n(!)", -1003);
        law("n(1=1!)", -1005);
    }

    private static void partsAndTerms() {
        says("PARTS with a | between two; PIECES with an & between two");
        law("n(1=1|)", -1006);
        law("n(1=1&)", -1006);
        law("n(|1=1)", -1002);
        law("n(&1=1)", -1002);
        law("n(1=1||1=1)", -1006);
        law("n(1=1&&1=1)", -1006);
        law("n(1=1&|1=1)", -1006);
        law("n(1=1,1=1)", -1005);
        law("n(1=1(1=1))", -1005);
        says("TERMS with + or - between two; FACTORS with one of * / % between two");
        for (String sign : "+ - * / %".split(" ")) {
            law("v1" + sign + "1(1=1)", 1);
            law("v1" + sign + "(1=1)", -1003);
            law("v" + sign + "1(1=1)", -1001);
            law("v1" + sign + sign + "1(1=1)", -1003);
        }
        law("v1^1(1=1)", -1002);
        says("a FACTOR: [E]");
        law("v[1](1=1)", 1);
        law("v[](1=1)", -1002);
        law("v[1(1=1)", -1003);
        law("v1](1=1)", -1002);
        law("v[1)(1=1)", -1003);
        law("v[1=1](1=1)", -1003);
        law("v(1)(1=1)", -1001);
        law("v[1]1(1=1)", -1004);
        law("v1[1](1=1)", -1002);
    }

    private static void ends() {
        says("FAULTS: 1 what can't stand there (the end, too)");
        String whole = "v[t+12]*3(!(y=1)&2<3|p>4)";
        for (int stop = 1; stop < whole.length(); stop++) law(whole.substring(0, stop), -1000 - stop);
        law(whole, 1);
        law(whole + ";", -1026);
        law(whole + ")", -1025);
        says("FAULTS, the first from the left");
        law("n(1=123456);w", -2009);
        law("w;n(1=123456)", -1000);
        law("n(1=);n(!!!!!!1=1)", -1004);
        law("n(!!!!!!1=)", -5007);
        law("n(1=1);q;n(!!!!!!1=1", -1007);
        law("n([[[[[123456", -2012);
        law("n([[[[[[123456", -5007);
    }

    private static void numbersAndLetters() {
        says("a number of one to five digits", 0);
        year(0, 0, 0);
        worth("0", 0, 0, 0);
        worth("1", 0, 0, 1);
        worth("00001", 0, 0, 1);
        worth("00120", 0, 0, 120);
        worth("99999-99990", 0, 0, 9);
        worth("12345-12000", 0, 0, 345);
        says("2 a sixth digit, at it");
        law("n(12345=1)", 1);
        law("n(123456=1)", -2007);
        law("n(1=000001)", -2009);
        law("v123456(1=1)", -2006);
        law("v1234567(1=1)", -2006);
        law("v123456", -2006);
        law("v12345x", -1006);
        law("v12345", -1006);
        law("n(1=1&[1+123456", -2014);
        says("or a letter: t y d l o s m k h p a c e z");
        for (char letter = 'A'; letter <= 'z'; letter++) {
            if (letter == '[') continue;
            boolean stands = "tydlosmkhpacez".indexOf(letter) >= 0;
            law("v" + letter + "(1=1)", stands ? 1 : -1001);
        }
        says("(one FACTOR alone)");
        law("vyy(1=1)", -1002);
        law("vy1(1=1)", -1002);
        law("v1y(1=1)", -1002);
        law("vy[1](1=1)", -1002);
    }

    private static void open() {
        says("5 a seventh of ( [ ! that are open in one another, at it (the ( of the CLAUSE counts)");
        law("n((((((1=1))))))", 1);
        law("n(((((((1=1)))))))", -5007);
        law("n(!!!!!1=1)", 1);
        law("n(!!!!!!1=1)", -5007);
        law("n([[[[[1]]]]]=1)", 1);
        law("n([[[[[[1]]]]]]=1)", -5007);
        law("n(1=[[[[[1]]]]])", 1);
        law("n(1=[[[[[[1", -5009);
        law("n(!(!([1]=1)))", 1);
        law("n(!(!(![1]=1)))", -5007);
        law("n(!(!(!1=1)))", 1);
        law("n(!(!(!(1=1))))", -5007);
        law("n(!!!!!(1=1))", -5007);
        law("n(((((([1]=1))))))", -5007);
        law("n((((((!1=1))))))", -5007);
        law("n(1=1);n(!!!!!!1=1)", -5014);
        says("(the E of a CLAUSE stands ahead of it)");
        law("v[[[[[[1]]]]]](1=1)", 1);
        law("v[[[[[[[1]]]]]]](1=1)", -5007);
        law("v[[[[[[1]]]]]]((((((1=1))))))", 1);
        law("v[[[[[[1]]]]]](((((([1]=1))))))", -5020);
        says("(a seventh where it can't stand is 1)");
        law("n((((((1=(1))))))", -1009);
        law("n((((((1=!1))))))", -1009);
        law("n((((((1[", -1008);
        law("v[[[[[[(", -1007);
        law("v[[[[[[!", -1007);
    }

    private static void openTill() {
        says("(a ! is open till its PIECE ends)");
        law("n(!!!!!1=1&!!!!!1=1)", 1);
        law("n(!!!!!1=1|!!!!!1=1)", 1);
        law("n(!!!!!1=1&!!!!!!1=1)", -5016);
        law("n(!!!!!1=[1])", -5009);
        law("n(!!!!!1=1&[1]=1)", 1);
        law("n(!!!!(1=1&[1]=1))", -5011);
        law("n(!!!!(1=1)&[[[[[1]]]]]=1)", 1);
        law("n(!(1=1)&((((([1]=1))))))", -5014);
        law("n(!(1=1)|((((([1]=1))))))", -5014);
        law("n(!(1=1)&(((([1]=1)))))", 1);
        says("(that are open in one another: those that are shut do not count)");
        law("n((1=1)&(1=1)&(1=1)&(1=1)&(1=1)&(1=1)&(1=1))", 1);
        law("v[1]+[1]+[1]+[1]+[1]+[1]+[1](1=1)", 1);
        law("v[[1]+[1]+[1]+[1]+[1]+[1]+[1]](1=1)", 1);
        law("n(!1=1&!1=1&!1=1&!1=1&!1=1&!1=1&!1=1)", 1);
        law("v[[[[[1]]]]]*[[[[[[1]]]]]](1=1)", 1);
        law("v[[[[[1]]]]]*[[[[[[[1]]]]]]](1=1)", -5019);
        law("n([[[[[1]]]]]=[[[[[1]]]]]&!!!!!1=1|((((((1", -5040);
    }

    private static void clauses() {
        says("CLAUSES (16 at most)", 0);
        year(0, 0, 0);
        law(SIXTEEN.substring(0, 111), 16);
        count(2, 16);
        law(SIXTEEN.substring(0, 104), 15);
        law("n(1=2);".repeat(15) + "v5(1=1)", 16);
        due("the sixteenth counts", x.worth(0, 0), 5);
        law("n(1/0=1);".repeat(15) + "v7(1=1)", 16);
        due("and its own E", x.worth(0, 0), 7);
        law("n(1=2);".repeat(15) + "n(1=1)", 16);
        due("the sixteenth counts", x.may(0, 0, 0), 0);
        says("4 a 17th CLAUSE, at its letter");
        law(SIXTEEN + "n(1=1)", -4112);
        for (String kind : "n v i f g".split(" ")) law(SIXTEEN + kind, -4112);
        says("(if that can stand there)");
        law(SIXTEEN, -1112);
        law(SIXTEEN + "w(1=1)", -1112);
        law(SIXTEEN + ";", -1112);
        law(SIXTEEN.substring(0, 111) + "n", -1111);
        says("law: how many CLAUSES");
        for (int n = 1; n <= 3; n++) {
            law(SIXTEEN.substring(0, 7 * n - 1), n);
            count(2, n);
        }
    }

    private static void worthAmounts() {
        says("v what a YEAR is worth to one (0 to 999) (beyond its bounds the bound)", 0);
        year(0, 0, 0);
        worth("0-1", 0, 0, 0);
        worth("0", 0, 0, 0);
        worth("1", 0, 0, 1);
        worth("998", 0, 0, 998);
        worth("999", 0, 0, 999);
        worth("1000", 0, 0, 999);
        worth("65536*32767", 0, 0, 999);
        worth("65536*32768", 0, 0, 0);
        says("(none: 0)", 7, 7);
        year(0, 0, 0);
        law("v5(1=2);i5(1=2);f10(1=2);g5(1=2);n(1=2)", 5);
        due("v", x.worth(0, 0), 0);
        due("n", x.may(0, 1, 0), 1);
        deals("0a]b1", 1);
        days(1, 0);
        yearIs(0, 8, 1);
        personIs(0, 0, 8);
        says("(none of this letter: 0)", 7);
        year(0, 0, 0);
        law("i5(1=1);f5(1=1);g5(1=1)", 3);
        due("v", x.worth(0, 0), 0);
        due("n", x.may(0, 0, 0), 1);
    }

    private static void pawnAmounts() {
        says("i what a pawn grows in a day (0 to 99) (beyond its bounds the bound)", 0, 99999);
        year(0, 0, 0);
        deals("0a]b9999", 1);
        int[] grown = {0, 0, 1, 98, 99, 99, 99, 0};
        String[] amounts = {"0-1", "0", "1", "98", "99", "100", "99999", "65536*32768"};
        int owed = 9999;
        for (int i = 0; i < amounts.length; i++) {
            law("i" + amounts[i] + "(1=1)", 1);
            days(1, 0);
            owed += grown[i];
            yearIs(0, 8, owed);
        }
    }

    /** Whether the only PERSON has a fortune of 1 when this is drawn. */
    private static void fortune(int draw, boolean want) {
        x.seed(seedOf(draw));
        int before = x.personIs(0, 0);
        x.days(1);
        due("draw " + draw, x.personIs(0, 0) - before, want ? 1 : 0);
    }

    private static void fortuneTenths() {
        says("f tenths for a fortune (0 to 10)", 0);
        for (int f = 0; f <= 10; f++) {
            law("f" + f + "(1=1);g1(1=1)", 2);
            fortune(0, f > 0);
            if (f > 0) fortune(f - 1, true);
            if (f < 10) fortune(f, false);
            fortune(9, f == 10);
        }
        says("f (beyond its bounds the bound)", 0);
        law("f0-1(1=1);g1(1=1)", 2);
        fortune(0, false);
        law("f11(1=1);g1(1=1)", 2);
        fortune(9, true);
        says("f (none: 0)", 0);
        law("f10(1=2);g1(1=1)", 2);
        fortune(0, false);
        law("g1(1=1)", 1);
        fortune(0, false);
    }

    private static void fortuneAmounts() {
        says("g what a fortune is (0 to 999) (beyond its bounds the bound)", 50);
        int[] more = {0, 0, 1, 999, 999, 999};
        String[] amounts = {"0-1", "0", "1", "999", "1000", "99999"};
        for (int i = 0; i < amounts.length; i++) {
            law("f10(1=1);g" + amounts[i] + "(1=1)", 2);
            x.person(0, 50);
            days(1, 0);
            personIs(0, 0, 50 + more[i]);
        }
        says("g (none: 0)", 50);
        law("f10(1=1)", 1);
        days(1, 0);
        personIs(0, 0, 50);
    }

    private static void firstThatHolds() {
        says("n a YEAR may not be dealt in (any n will do)", 0);
        for (int y = 0; y < 4; y++) year(y, 0, 0);
        law("n(y=0);v1(1=1);n(y=1);n(y=2)", 4);
        for (int y = 0; y < 4; y++) due("year " + y, x.may(y, 0, 0), y == 3 ? 1 : 0);
        says("of the first one of a letter whose C holds the E", 0);
        for (int y = 0; y < 4; y++) year(y, 0, 0);
        law("i9(1=1);v1(y=1);n(1=1);v2(y<2);v3(y=3);v4(y>0)", 6);
        int[] want = {2, 1, 4, 3};
        for (int y = 0; y < 4; y++) due("year " + y, x.worth(y, 0), want[y]);
        says("of the first one (its E is 0: not of the next one)", 0);
        year(0, 0, 0);
        law("v0(1=1);v5(1=1)", 2);
        due("v", x.worth(0, 0), 0);
        law("v1/0(1=1);v5(1=1)", 2);
        due("v", x.worth(0, 0), 0);
        law("v0-7(1=1);v5(1=1)", 2);
        due("v", x.worth(0, 0), 0);
        says("PARTS one of which must hold, PIECES all of which must", 0);
        year(0, 0, 0);
        for (int bits = 0; bits < 16; bits++) {
            boolean a = (bits & 1) != 0, b = (bits & 2) != 0, c = (bits & 4) != 0, d = (bits & 8) != 0;
            String row = "";
            String signs = bits % 3 == 0 ? "&|&" : bits % 3 == 1 ? "|&|" : "||&";
            boolean want2 = bits % 3 == 0 ? a && b || c && d : bits % 3 == 1 ? a || b && c || d : a || b || c && d;
            for (int i = 0; i < 4; i++) row += ((bits >> i & 1) != 0 ? "1=1" : "1=2") + (i < 3 ? signs.charAt(i) : "");
            holds(row, want2);
            holds("!(" + row + ")", !want2);
        }
        holds("(1=1|1=1)&1=2", false);
        holds("1=1|1=1&1=2", true);
        holds("!1=2&1=2", false);
        holds("!(1=2&1=2)", true);
        holds("!!1=1", true);
        holds("!!!1=1", false);
        says("!PIECE (of < > =)", 0);
        year(0, 0, 0);
        for (String sign : "< > =".split(" ")) {
            for (int a = 1; a <= 3; a++) {
                boolean without = sign.equals("<") ? a < 2 : sign.equals(">") ? a > 2 : a == 2;
                holds("!" + a + sign + "2", !without);
                holds("!!" + a + sign + "2", without);
            }
        }
    }

    private static void lettersOfYears() {
        says("t TODAY; of the YEAR y its number, d its DATE, l its LIVER, o its OWNER", 10, 20, 30, 40);
        yes("year 39", x.year(39, 99, 2, 4095, 11, true, 9));
        deals("39c=d", 1);
        worth("t", 39, 1, 0);
        worth("y", 39, 1, 39);
        worth("d", 39, 1, 99);
        worth("l", 39, 1, 2);
        worth("o", 39, 1, 3);
        days(2, 0);
        worth("t", 39, 1, 2);
        says("s how many SKILLS, m how many it MET, k whether it has a DEED, h how many HANDS", 10, 20, 30, 40);
        yes("year 39", x.year(39, 99, 2, 4095, 11, true, 9));
        yes("year 0", x.year(0, 99, 2, 0, 0, false, 9));
        deals("39c=d;39d=c", 2);
        int[] much = {12, 3, 1, 3};
        int[] none = {0, 0, 0, 1};
        for (int i = 0; i < 4; i++) {
            worth("smkh".charAt(i) + "", 39, 1, much[i]);
            due("year 0", x.worth(0, 1), none[i]);
        }
        says("h how many HANDS (the first 16 alone)", 0, 0);
        year(0, 0, 0);
        deals("0a=b;0b=a;0a=b;0b=a;0a=b;0b=a;0a=b;0b=a", 8);
        worth("h", 0, 0, 9);
        deals("0a=b;0b=a;0a=b;0b=a;0a=b;0b=a;0a=b", 7);
        due("h", x.worth(0, 0), 16);
        deals("0b=a", 1);
        due("h", x.worth(0, 0), 16);
        says("o its OWNER (of a pawned one its pawner)", 0, 0, 0);
        year(0, 0, 0);
        deals("0a=c;0c]b0", 2);
        worth("o", 0, 1, 2);
        law("io(1=1)", 1);
        days(1, 0);
        yearIs(0, 8, 2);
        law("i10+p(1=1)", 1);
        days(1, 0);
        yearIs(0, 8, 14);
    }

    private static void lettersOfPeople() {
        says("of the PERSON p, a AGE, c COINS", 10, 20, 30);
        for (int y = 0; y < 4; y++) year(y, 0, 1);
        deals("0b]c0", 1);
        int[] b = {1, 4, 20};
        int[] c = {2, 0, 30};
        for (int i = 0; i < 3; i++) {
            worth("pac".charAt(i) + "", 0, 1, b[i]);
            due("c", x.worth(0, 2), c[i]);
        }
        says("p, a, c (in n: the buyer)", 10, 20, 30);
        for (int y = 0; y < 3; y++) year(y, 0, y / 2);
        law("n(p=1)", 1);
        deals("0a=b;0a=c", 1);
        yearIs(0, 6, 2);
        law("n(c=31)", 1);
        x.person(2, 31);
        deals("1a=c;1a=b", 1);
        yearIs(1, 6, 1);
        law("n(a=1)", 1);
        due("b has two", x.may(0, 1, 0), 1);
        due("c has one", x.may(0, 2, 0), 0);
        says("p (in i: the pawner)", 10, 20, 30);
        year(0, 0, 1);
        year(1, 0, 1);
        deals("0b]c9", 1);
        x.person(1, 5);
        law("ip+a+c(1=1)", 1);
        days(1, 0);
        yearIs(0, 8, 9 + 1 + 2 + 5);
        says("e how many of the YEAR's SKILLS p has in others that p owns", 0, 0);
        skilled(0, 0, 15);
        skilled(1, 0, 3);
        skilled(2, 0, 6);
        skilled(3, 1, 8);
        worth("e", 0, 0, 3);
        due("1, of 0 and 2", x.worth(1, 0), 2);
        due("3, that b owns", x.worth(3, 0), 1);
        due("0 to b", x.worth(0, 1), 1);
        due("its own does not count", x.worth(3, 1), 0);
        deals("0a]b0", 1);
        due("a pawned one is its pawner's", x.worth(3, 0), 1);
        skilled(39, 1, 4095);
        due("all", x.worth(0, 1), 4);
        due("39 to a", x.worth(39, 0), 4);
        deals("1a=b", 1);
        due("not what it had", x.worth(0, 0), 2);
    }

    private static void lettersNotTold() {
        says("z the price (in n; in i what was lent)", 0, 99999);
        year(0, 0, 0);
        law("n(z=7)", 1);
        deals("0a>b7;0a]b7", 0);
        deals("0a]b20", 1);
        law("iz(1=1)", 1);
        days(1, 1);
        yearIs(0, 6, 1);
        says("(in i z is what was lent, not what it has grown to)", 0, 99999);
        year(0, 0, 0);
        deals("0a]b40", 1);
        law("iz/4(1=1)", 1);
        days(2, 0);
        yearIs(0, 8, 60);
        says("(where they are not told they are 0: z in v)", 0);
        year(0, 0, 0);
        worth("z", 0, 0, 0);
        law("v1(z=0);v2(1=1)", 2);
        due("v", x.worth(0, 0), 1);
        says("(in f, g only t, p, a, c)", 0, 0, 0);
        for (int y = 0; y < 4; y++) yes("year", x.year(y, 9, 1, 7, 1, true, 3));
        law("f10(y+d+l+o+s+m+k+h+e+z=0);gy+d+l+o+s+m+k+h+e+z(1=1)", 2);
        days(1, 0);
        count(7, 0);
        law("f10(y+d+l+o+s+m+k+h+e+z=0);gt*100+p*10+a(1=1)", 2);
        x.person(1, 5);
        days(1, 0);
        personIs(0, 0, 100);
        personIs(1, 0, 5 + 114);
        personIs(2, 0, 120);
        law("f10(c=120);gc(1=1)", 2);
        days(1, 0);
        personIs(2, 0, 240);
        personIs(0, 0, 100);
    }

    private static void fromTheLeft() {
        says("from the left on", 0);
        year(0, 0, 0);
        worth("10-2-3", 0, 0, 5);
        worth("10-2+3", 0, 0, 11);
        worth("1-2+3", 0, 0, 2);
        worth("100/7/2", 0, 0, 7);
        worth("100/7*2", 0, 0, 28);
        worth("100%7*3", 0, 0, 6);
        worth("3*100%7", 0, 0, 6);
        worth("100%30%7", 0, 0, 3);
        worth("7/2*2", 0, 0, 6);
        worth("7/1", 0, 0, 7);
        worth("7%1+3", 0, 0, 3);
        worth("0/7", 0, 0, 0);
        says("TERMS with + or -; a TERM: FACTORS with * / %", 0);
        year(0, 0, 0);
        worth("2+3*4", 0, 0, 14);
        worth("2*3+4", 0, 0, 10);
        worth("20-3*4", 0, 0, 8);
        worth("20-12/4", 0, 0, 17);
        worth("20-12%5", 0, 0, 18);
        worth("[2+3]*4", 0, 0, 20);
        worth("20-[3-4]", 0, 0, 21);
        worth("100/[7/2]", 0, 0, 33);
        worth("2*[3+[4-1]*5]", 0, 0, 36);
    }

    private static void comparisons() {
        says("one of < > =", 0);
        year(0, 0, 0);
        String[] signs = {"<", ">", "="};
        for (int a = 1; a <= 3; a++) {
            for (int b = 1; b <= 3; b++) {
                holds(a + "<" + b, a < b);
                holds(a + ">" + b, a > b);
                holds(a + "=" + b, a == b);
            }
        }
        for (String sign : signs) {
            holds("[0-1]" + sign + "1", sign.equals("<"));
            holds("65536*32768" + sign + "65536*32768-1", sign.equals("<"));
        }
        holds("1+1=2", true);
        holds("2=1+1", true);
    }

    private static void bits32() {
        says("All is reckoned with 32 bits, as the machine does", 0);
        year(0, 0, 0);
        worth("65536*65536+5", 0, 0, 5);
        worth("99999*99999-65536*21512-54977+7", 0, 0, 7);
        holds("65536*32767+65535>0", true);
        holds("65536*32767+65535+1<0", true);
        holds("65536*32768-1>0", true);
        holds("[0-65536*32768]=65536*32768", true);
        holds("65536*32768*[0-1]<0", true);
        says("(of numbers below 0, as the machine does)", 0);
        year(0, 0, 0);
        worth("[0-7]/2+10", 0, 0, 7);
        worth("[0-7]%4+10", 0, 0, 7);
        worth("7/[0-2]+10", 0, 0, 7);
        worth("7%[0-4]+10", 0, 0, 13);
        holds("65536*32768/[0-1]=65536*32768", true);
        holds("65536*32768%[0-1]=0", true);
    }

    private static void refused() {
        says("what is divided by 0 is REFUSED: then the C as a whole does not hold", 0);
        year(0, 0, 0);
        holds("1/0=1/0", false);
        holds("0/0=0", false);
        holds("1%0=0", false);
        holds("1%0=1", false);
        holds("1=1/[1-1]", false);
        holds("1/0<1", false);
        holds("1/t=0", false);
        holds("0*[1/0]=0", false);
        says("(through any !, ( and |)", 0);
        year(0, 0, 0);
        holds("!1/0=1", false);
        holds("!!1/0=1", false);
        holds("!(1/0=1)", false);
        holds("(1/0=1)|1=1", false);
        holds("1/0=1|1=1", false);
        holds("1=1&1/0=1|1=1", false);
        holds("!(1=1&(1=2|!1%0=1))", false);
        holds("!(!(1/0=1))", false);
        says("(the C as a whole: another CLAUSE may hold)", 0);
        year(0, 0, 0);
        law("n(1/0=1);n(1=1)", 2);
        due("n", x.may(0, 0, 0), 0);
        law("v5(1/0=1);v6(1=1)", 2);
        due("v", x.worth(0, 0), 6);
        says("an E is 0", 9, 9);
        year(0, 0, 0);
        worth("5+1/0", 0, 0, 0);
        worth("5+1%0", 0, 0, 0);
        worth("1/0+5", 0, 0, 0);
        worth("7-[2-1/[3-3]]", 0, 0, 0);
        worth("0/0", 0, 0, 0);
        law("i5+1/0(1=1);f10(1=1);g5+1/0(1=1)", 3);
        deals("0a]b3", 1);
        days(1, 0);
        yearIs(0, 8, 3);
        count(7, 18);
        law("f10+1/0(1=1);g5(1=1)", 2);
        days(1, 0);
        count(7, 18);
    }

    private static void askedAsMatters() {
        says("Of a C as much is asked, from the left, as matters", 0);
        year(0, 0, 0);
        holds("1=1|1/0=1", true);
        holds("1=2|1=1|1/0=1", true);
        holds("1=2|1/0=1|1=1", false);
        holds("1=2&1/0=1", false);
        holds("!(1=2&1/0=1)", true);
        holds("1=2&1/0=1|1=1", true);
        holds("1=1&1=2&1/0=1|1=1", true);
        holds("1=1&1=1&1/0=1|1=1", false);
        holds("(1=1|1/0=1)&1=1", true);
        holds("(1=2&1/0=1)|1=1", true);
        holds("!(1=1|1/0=1)|1=1", true);
        holds("!1=1&1/0=1|1=1", true);
        holds("!1=2|1/0=1", true);
        holds("1=1|(1=1&1/0=1)", true);
        holds("1=1|!(1/0=1)|1/0=1", true);
        holds("1=1&(1=2|1=1&1/0=1)|1=1", false);
        holds("1=1&(1=2|1=2&1/0=1)|1=1", true);
        holds("(1=1|1/0=1)&(1=2&1%0=1|1=1)", true);
    }

    private static void worthBounds() {
        says("worth: NONE: no such ones", 0, 0);
        year(0, 0, 0);
        year(39, 0, 1);
        law("vy+p(1=1)", 1);
        for (int y : new int[] {-1, 1, 38, 40, 64, LOW, HIGH}) due("year " + y, x.worth(y, 0), -1);
        for (int p : new int[] {-1, 2, 7, 8, 32, LOW, HIGH}) due("person " + p, x.worth(0, p), -1);
        due("0, 0", x.worth(0, 0), 0);
        due("39, 1", x.worth(39, 1), 40);
        says("What a YEAR is worth to a PERSON (to its OWNER, too; a pawned one, too)", 0, 0);
        year(0, 0, 0);
        deals("0a]b0", 1);
        worth("p+4", 0, 0, 4);
        due("to b", x.worth(0, 1), 5);
    }

    private static void mayBounds() {
        says("a price (0 to 9999)", 0);
        year(0, 0, 0);
        law("n(z=0);n(z=9999);n(z>9999);n(z<0)", 4);
        for (int z : new int[] {-1, 10000, LOW, HIGH}) due("price " + z, x.may(0, 0, z), -1);
        due("0", x.may(0, 0, 0), 0);
        due("1", x.may(0, 0, 1), 1);
        due("9998", x.may(0, 0, 9998), 1);
        due("9999", x.may(0, 0, 9999), 0);
        says("may: NONE: no such ones", 0, 0);
        year(0, 0, 0);
        year(39, 0, 0);
        for (int y : new int[] {-1, 1, 38, 40, 64, LOW, HIGH}) due("year " + y, x.may(y, 0, 0), -1);
        for (int p : new int[] {-1, 2, 7, 8, 32, LOW, HIGH}) due("person " + p, x.may(0, p, 0), -1);
        due("39, 1", x.may(39, 1, 0), 1);
        says("n alone is asked", 0, 0);
        year(0, 0, 0);
        due("no coins", x.may(0, 1, 9999), 1);
        due("its owner", x.may(0, 0, 0), 1);
        deals("0a]b0", 1);
        due("pawned", x.may(0, 1, 0), 1);
    }
}
