/** Boundary cases of what is asked of YEARS, sentence by sentence: promises 13 to 17, 20, 21 and 25 to 27. */
public final class QuestionBoundaries extends Sentences {
    public static void main(String[] args) {
        clashes();
        clashesOfMany();
        givenBack();
        givenBackLikeOnes();
        givenBackLowestTwelve();
        deedsByLiverAndOwner();
        deedsByHands();
        deedsBounds();
        taughtSkills();
        taughtOffers();
        taughtLaw();
        taughtCheapest();
        taughtBounds();
        shares();
        sharesBounds();
        forgedFewest();
        forgedWays();
        forgedYears();
        dealtIn();
        commonToTwo();
        commonBounds();
        linkedSteps();
        linkedAgain();
        linkedRows();
        linkedBounds();
        regimeDates();
        regimeBounds();
        end();
    }

    private static void meeting(int y, int date, int liver, int met) {
        yes("year " + y, x.year(y, date, liver, 0, met, false, 0));
    }

    private static void clashesAre(int p, int want) {
        due("clashes " + p, x.clashes(p), want);
    }

    private static void clashes() {
        says("of which one has MET the other's LIVER and the other has not MET that of the first", 0, 0, 0);
        int[] want = {0, 1, 1, 0};
        for (int way = 0; way < 4; way++) {
            meeting(0, 5, 0, (way & 1) != 0 ? 2 : 0);
            meeting(1, 5, 1, (way & 2) != 0 ? 1 : 0);
            deals("0a=c;1b=c", 2);
            clashesAre(2, want[way]);
        }
        says("(whom else they MET does not matter)", 0, 0, 0);
        meeting(0, 5, 0, 4);
        meeting(1, 5, 1, 0);
        deals("0a=c;1b=c", 2);
        clashesAre(2, 0);
        meeting(0, 5, 0, 6);
        meeting(1, 5, 1, 4);
        deals("0a=c;1b=c", 2);
        clashesAre(2, 1);
        says("two YEARS of one DATE", 0, 0, 0);
        meeting(0, 5, 0, 2);
        meeting(1, 6, 1, 0);
        deals("0a=c;1b=c", 2);
        clashesAre(2, 0);
        says("that one owns (a pawned one is its pawner's still)", 0, 0, 0);
        meeting(0, 5, 0, 2);
        meeting(1, 5, 1, 0);
        for (int p = 0; p < 3; p++) clashesAre(p, 0);
        deals("0a=b", 1);
        clashesAre(1, 1);
        deals("0b]c0", 1);
        clashesAre(1, 1);
        clashesAre(2, 0);
        deals("0b[c;0b=c", 2);
        clashesAre(1, 0);
        clashesAre(2, 0);
        says("of two LIVERS", 0, 0, 0);
        meeting(0, 5, 0, 2);
        meeting(1, 5, 0, 0);
        clashesAre(0, 0);
    }

    private static void clashesOfMany() {
        says("how many twos", 0, 0, 0, 0);
        meeting(0, 5, 0, 6);
        meeting(20, 5, 1, 4);
        meeting(39, 5, 2, 0);
        deals("0a=d;20b=d;39c=d", 3);
        clashesAre(3, 3);
        meeting(20, 5, 1, 5);
        deals("20b=d", 1);
        clashesAre(3, 2);
        says("how many twos (of all forty)", 0, 0);
        for (int y = 0; y < 40; y++) meeting(y, 5, y % 2, y % 2 == 0 ? 2 : 0);
        for (int y = 1; y < 40; y += 4) deals(y + "b=a;" + (y + 2) + "b=a", 2);
        clashesAre(0, 400);
        clashesAre(1, 0);
        says("clashes: NONE: no such one", 0);
        for (int p : new int[] {-1, 1, 7, 8, 32, LOW, HIGH}) clashesAre(p, -1);
        clashesAre(0, 0);
    }

    private static void back(int p, int i, int what, int want) {
        due("givenBack " + p + " " + i + " " + what, x.givenBack(p, i, what), want);
    }

    /** A YEAR of b at this number, and leaves of a that clash with it, all owned by c. */
    private static void star(int middle, int... leaves) {
        meeting(middle, 5, 1, 0);
        deals(middle + "b=c", 1);
        for (int y : leaves) {
            meeting(y, 5, 0, 2);
            deals(y + "a=c", 1);
        }
    }

    private static void givenBack() {
        says("(no CLASHES)", 0);
        year(0, 0, 0);
        back(0, 0, 0, 0);
        back(0, 0, 1, 0);
        back(0, 0, 2, -2);
        says("the fewest YEARS without which there is no CLASH", 0, 0, 0);
        star(30, 3, 7, 12);
        back(2, 0, 0, 1);
        back(2, 0, 1, 8);
        says("(bits, the lowest YEAR that is in a CLASH the lowest bit)", 0, 0, 0);
        star(2, 20, 39);
        year(0, 5, 2);
        year(1, 6, 0);
        deals("1a=c", 1);
        back(2, 0, 1, 1);
        back(2, 0, 2, 2);
        back(2, 1, 2, 20);
        back(2, 2, 2, 39);
        says("the YEAR at place i of these that are in CLASHES; -2: no such place", 0, 0, 0);
        star(2, 20, 39);
        for (int i : new int[] {-1, 3, 12, LOW, HIGH}) back(2, i, 2, -2);
        says("of those in CLASHES (of its own YEARS alone)", 0, 0, 0);
        star(2, 20, 39);
        meeting(0, 5, 0, 2);
        meeting(1, 5, 1, 0);
        deals("1b=c", 1);
        back(2, 0, 0, 2);
        back(2, 0, 1, 3);
        back(2, 0, 2, 1);
        back(2, 3, 2, 39);
        back(2, 4, 2, -2);
        back(0, 0, 0, 0);
        back(0, 0, 2, -2);
        says("(asked again when other YEARS clash)", 0, 0, 0, 0);
        meeting(0, 5, 0, 6);
        meeting(1, 5, 1, 4);
        meeting(2, 5, 2, 0);
        deals("0a=d;1b=d;2c=d", 3);
        back(3, 0, 1, 3);
        meeting(2, 5, 2, 1);
        deals("2c=d", 1);
        back(3, 0, 1, 2);
        deals("1d=a", 1);
        back(3, 0, 1, 0);
        back(0, 0, 1, 0);
        says("(i is looked at by 2 alone)", 0, 0, 0);
        star(2, 20, 39);
        for (int i : new int[] {-1, 3, 99, LOW, HIGH}) {
            back(2, i, 0, 1);
            back(2, i, 1, 1);
        }
        says("givenBack: NONE: no such ones", 0);
        for (int p : new int[] {-1, 1, 7, 8, 32, LOW, HIGH}) {
            for (int what = 0; what < 3; what++) back(p, 0, what, -1);
        }
        for (int what : new int[] {-1, 3, LOW, HIGH}) back(0, 0, what, -1);
        says("NONE ahead of -2", 0);
        back(1, 99, 2, -1);
        back(0, 99, 3, -1);
    }

    private static void givenBackLikeOnes() {
        says("of like ones the least bits by their numbers", 0, 0, 0);
        star(7, 9);
        back(2, 0, 0, 1);
        back(2, 0, 1, 1);
        says("the least bits (0 and 3 are 9, 1 and 2 are 6)", 0, 0, 0, 0, 0);
        meeting(0, 5, 0, 2);
        meeting(1, 5, 1, 8);
        meeting(2, 5, 2, 1);
        meeting(3, 5, 3, 4);
        deals("0a=e;1b=e;2c=e;3d=e", 4);
        clashesAre(4, 4);
        back(4, 0, 0, 2);
        back(4, 0, 1, 6);
        says("the fewest YEARS (of three that all clash two)", 0, 0, 0, 0);
        meeting(0, 5, 0, 6);
        meeting(1, 5, 1, 4);
        meeting(2, 5, 2, 0);
        deals("0a=d;1b=d;2c=d", 3);
        back(3, 0, 0, 2);
        back(3, 0, 1, 3);
        says("the fewest YEARS (of each of two DATES)", 0, 0, 0);
        star(0, 1, 2);
        for (int y : new int[] {3, 4, 5}) {
            meeting(y, 6, y == 5 ? 1 : 0, y == 5 ? 0 : 2);
            deals(y + (y == 5 ? "b=c" : "a=c"), 1);
        }
        back(2, 0, 0, 2);
        back(2, 0, 1, 33);
    }

    private static void givenBackLowestTwelve() {
        says("(of those in CLASHES, the lowest 12 of them)", 0, 0, 0);
        star(39, 0, 1, 2, 3, 4, 5, 6, 7, 8, 9, 10);
        back(2, 0, 0, 1);
        back(2, 0, 1, 2048);
        back(2, 11, 2, 39);
        back(2, 12, 2, -2);
        says("without which there is no CLASH among these (the 13th is none of them)", 0, 0, 0);
        star(39, 0, 1, 2, 3, 4, 5, 6, 7, 8, 9, 10, 11);
        clashesAre(2, 12);
        back(2, 0, 0, 0);
        back(2, 0, 1, 0);
        back(2, 11, 2, 11);
        back(2, 12, 2, -2);
        says("the lowest 12 (what they clash with may be higher)", 0, 0, 0);
        star(0, 1, 2, 3, 4, 5, 6, 7, 8, 9, 10, 11, 12, 13);
        back(2, 0, 0, 1);
        back(2, 0, 1, 1);
        says("the lowest 12 (six twos and one more)", 0, 0, 0);
        for (int y = 0; y < 14; y++) {
            meeting(y, y / 2, y % 2, y % 2 == 0 ? 2 : 0);
            deals(y + (y % 2 == 0 ? "a=c" : "b=c"), 1);
        }
        clashesAre(2, 7);
        back(2, 0, 0, 6);
        back(2, 0, 1, 0x555);
        says("the fewest (of seven that all clash six)", 0, 0, 0, 0, 0, 0, 0, 0);
        for (int y = 0; y < 7; y++) {
            meeting(y, 5, y, 127 & -(2 << y));
            deals(y + "" + (char) ('a' + y) + "=h", 1);
        }
        clashesAre(7, 21);
        back(7, 0, 0, 6);
        back(7, 0, 1, 63);
    }

    private static void deed(int y, int date, int liver) {
        yes("deed " + y, x.year(y, date, liver, 0, 0, true, 0));
    }

    private static void deedsAre(int rule, int... want) {
        for (int p = 0; p < want.length; p++) due("deeds " + p + " " + rule, x.deeds(p, rule), want[p]);
    }

    private static void deedsByLiverAndOwner() {
        says("WHOSE a DEED is by rule 0 its LIVER, 1 its OWNER", 0, 0, 0);
        deed(0, 5, 0);
        deed(39, 6, 0);
        deed(20, 6, 1);
        deals("0a=b;20b=c", 2);
        deedsAre(0, 2, 1, 0);
        deedsAre(1, 1, 1, 1);
        says("(a pawned one: who holds it)", 0, 0, 0);
        deed(0, 5, 0);
        deals("0a=b;0b]c0", 2);
        deedsAre(0, 1, 0, 0);
        deedsAre(1, 0, 0, 1);
        deals("0b[c", 1);
        deedsAre(1, 0, 1, 0);
        says("how many (of YEARS with a DEED)", 0, 0);
        deed(0, 5, 0);
        year(1, 5, 0);
        for (int rule = 0; rule < 3; rule++) deedsAre(rule, 1, 0);
        year(0, 5, 0);
        for (int rule = 0; rule < 3; rule++) deedsAre(rule, 0, 0);
        says("how many (all forty)", 0, 0);
        for (int y = 0; y < 40; y++) deed(y, y, 0);
        for (int rule = 0; rule < 3; rule++) deedsAre(rule, 40, 0);
    }

    private static void deedsByHands() {
        says("2 the first of its HANDS who owns a YEAR of the same DATE now", 0, 0, 0, 0);
        deed(0, 5, 0);
        for (int p = 0; p < 4; p++) year(1 + p, 5, p);
        deals("0a=b;0b=c;0c=d", 3);
        deedsAre(2, 1, 0, 0, 0);
        deals("1a=d", 1);
        deedsAre(2, 0, 1, 0, 0);
        deals("2b=d", 1);
        deedsAre(2, 0, 0, 1, 0);
        deals("3c=d", 1);
        deedsAre(2, 0, 0, 0, 1);
        says("(of the same DATE)", 0, 0);
        deed(0, 5, 0);
        year(1, 6, 0);
        deals("0a=b", 1);
        deedsAre(2, 0, 1);
        year(1, 4, 0);
        deedsAre(2, 0, 1);
        year(1, 0, 0);
        deedsAre(2, 0, 1);
        year(1, 5, 0);
        deedsAre(2, 1, 0);
        says("(who owns: not who holds it in pawn)", 0, 0, 0);
        deed(0, 5, 0);
        year(1, 5, 2);
        deals("0a=b;1c]a0", 2);
        deedsAre(2, 0, 1, 0);
        says("(of its HANDS: not one who never had it)", 0, 0, 0);
        deed(0, 5, 0);
        year(1, 5, 2);
        deedsAre(2, 1, 0, 0);
        says("(nobody: its LIVER)", 0, 0, 0);
        deed(0, 5, 0);
        for (int i = 0; i < 8; i++) deals("0a=b;0b=a", 2);
        deals("0a=c", 1);
        deedsAre(2, 1, 0, 0);
        deedsAre(1, 0, 0, 1);
    }

    private static void deedsBounds() {
        says("deeds: NONE: no such ones", 0, 0);
        deed(0, 5, 0);
        for (int p : new int[] {-1, 2, 7, 8, 32, LOW, HIGH}) due("person " + p, x.deeds(p, 0), -1);
        for (int rule : new int[] {-1, 3, LOW, HIGH}) due("rule " + rule, x.deeds(0, rule), -1);
    }

    private static void taught(int p, int skills, int cost, int years, int much) {
        due("taught " + p + " " + skills + " 0", x.taught(p, skills, 0), cost);
        due("taught " + p + " " + skills + " 1", x.taught(p, skills, 1), years);
        due("taught " + p + " " + skills + " 2", x.taught(p, skills, 2), much);
    }

    private static void taughtSkills() {
        says("told SKILLS (bits) that one does not know yet", 100, 0);
        skilled(0, 0, 1);
        skilled(1, 1, 3);
        skilled(2, 1, 2048);
        law("v10+y(1=1)", 1);
        taught(0, 1, 0, 0, 1);
        taught(0, 2, 11, 1, 1);
        taught(0, 3, 11, 1, 1);
        taught(0, 2048, 12, 1, 1);
        taught(0, 2051, 23, 2, 1);
        taught(0, 4, -2, -2, -2);
        taught(0, 2055, -2, -2, -2);
        says("(One that knows all: 0, 0.)", 0, 0);
        skilled(0, 0, 5);
        skilled(39, 0, 2048);
        law("v10(1=1)", 1);
        taught(0, 2053, 0, 0, 1);
        taught(0, 0, 0, 0, 1);
        taught(1, 0, 0, 0, 1);
        says("(a pawned one of its own is known; one that it sold is not)", 100, 50);
        skilled(0, 0, 1);
        skilled(1, 0, 2);
        law("v10(1=1)", 1);
        deals("0a]b0;1a=b", 2);
        taught(0, 1, 0, 0, 1);
        taught(0, 2, 10, 1, 1);
        says("Whether one has as much", 20, 0);
        skilled(0, 1, 1);
        law("v20(1=1)", 1);
        taught(0, 1, 20, 1, 1);
        x.person(0, 19);
        taught(0, 1, 20, 1, 0);
        law("v0(1=1)", 1);
        x.person(0, 0);
        taught(0, 1, 0, 1, 1);
    }

    private static void taughtOffers() {
        says("by YEARS that others own", 50, 50, 50);
        skilled(0, 2, 1);
        law("v7(1=1)", 1);
        taught(0, 1, 7, 1, 1);
        taught(2, 1, 0, 0, 1);
        deals("0c=b", 1);
        taught(0, 1, 7, 1, 1);
        taught(1, 1, 0, 0, 1);
        says("are not pawned", 50, 50, 50);
        skilled(0, 1, 1);
        skilled(1, 1, 1);
        law("v7(y=0);v9(y=1)", 2);
        taught(0, 1, 7, 1, 1);
        deals("0b]c0", 1);
        taught(0, 1, 9, 1, 1);
        deals("1b]a0", 1);
        taught(0, 1, -2, -2, -2);
        says("(none is told)", 50);
        taught(0, 1, -2, -2, -2);
        says("(YEARS 0 and 39, all of them)", 9999, 0);
        for (int y = 0; y < 40; y++) skilled(y, 1, y < 28 ? 1 : 1 << y - 28);
        law("v1(y=39);v2(y=0);v3(1=1)", 3);
        taught(0, 2048, 1, 1, 1);
        taught(0, 1, 2, 1, 1);
        taught(0, 4095, 33, 12, 1);
    }

    private static void taughtLaw() {
        says("for which n does not hold", 50, 50, 50);
        skilled(0, 1, 1);
        skilled(1, 1, 1);
        law("v7(y=0);v9(y=1);n(y=0)", 3);
        taught(0, 1, 9, 1, 1);
        law("v7(y=0);v9(y=1);n(1=1)", 3);
        taught(0, 1, -2, -2, -2);
        says("(with the price v for its OWNER, who asks just that)", 50, 50, 50);
        skilled(0, 1, 1);
        skilled(1, 2, 1);
        law("v30-p(1=1)", 1);
        taught(0, 1, 28, 1, 1);
        deals("1c=b", 1);
        taught(0, 1, 29, 1, 1);
        deals("1b=c", 1);
        law("v5+p(1=1);n(z=6)", 2);
        taught(0, 1, 7, 1, 1);
        law("v5+p(1=1);n(z=7)", 2);
        taught(0, 1, 6, 1, 1);
        law("v5+p(1=1);n(z=5|z=0)", 2);
        taught(0, 1, 6, 1, 1);
        says("(z is not told where v is asked)", 50, 50);
        skilled(0, 1, 1);
        law("v5+z(z=0)", 1);
        taught(0, 1, 5, 1, 1);
        says("n (of it as the buyer)", 50, 50, 50);
        skilled(0, 2, 1);
        law("v5(1=1);n(p=0)", 2);
        taught(0, 1, -2, -2, -2);
        taught(1, 1, 5, 1, 1);
        law("v5(1=1);n(p=2)", 2);
        taught(0, 1, 5, 1, 1);
    }

    private static void taughtCheapest() {
        says("a set that is cheapest together", 50, 50);
        skilled(0, 1, 3);
        skilled(1, 1, 6);
        skilled(2, 1, 5);
        skilled(3, 1, 7);
        law("v4(y=0);v5(y=1);v6(y=2);v10(y=3)", 4);
        taught(0, 7, 9, 2, 1);
        taught(0, 5, 6, 1, 1);
        taught(0, 2, 4, 1, 1);
        law("v4(y=0);v5(y=1);v6(y=2);v8(y=3)", 4);
        taught(0, 7, 8, 1, 1);
        taught(0, 4, 5, 1, 1);
        says("of like ones the fewest YEARS", 50, 50);
        skilled(0, 1, 3);
        skilled(1, 1, 4);
        skilled(2, 1, 7);
        law("v4(y=0);v5(y=1);v9(y=2)", 3);
        taught(0, 7, 9, 1, 1);
        law("v4(y=0);v5(y=1);v10(y=2)", 3);
        taught(0, 7, 9, 2, 1);
        law("v0(1=1)", 1);
        taught(0, 7, 0, 1, 1);
        says("what it costs, how many (twelve of the dearest)", 11988, 0);
        for (int i = 0; i < 12; i++) skilled(20 + i, 1, 1 << i);
        law("v999(1=1)", 1);
        taught(0, 4095, 11988, 12, 1);
        x.person(0, 11987);
        taught(0, 4095, 11988, 12, 0);
        skilled(0, 1, 4095);
        taught(0, 4095, 999, 1, 1);
        says("(for nothing: twelve, then one)", 0, 0);
        for (int i = 0; i < 12; i++) skilled(i, 1, 1 << i);
        taught(0, 4095, 0, 12, 1);
        skilled(39, 1, 4095);
        taught(0, 4095, 0, 1, 1);
    }

    private static void taughtBounds() {
        says("taught: NONE: no such ones", 0, 0);
        for (int p : new int[] {-1, 2, 7, 8, 32, LOW, HIGH}) due("person " + p, x.taught(p, 1, 0), -1);
        for (int skills : new int[] {-1, 4096, LOW, HIGH}) due("skills " + skills, x.taught(0, skills, 0), -1);
        for (int what : new int[] {-1, 3, LOW, HIGH}) due("what " + what, x.taught(0, 1, what), -1);
        for (int what = 0; what < 3; what++) due("what " + what, x.taught(0, 1, what), -2);
        due("4095", x.taught(0, 4095, 0), -2);
        says("NONE ahead of -2", 0);
        due("what 3", x.taught(0, 1, 3), -1);
        due("skills", x.taught(0, 4097, 0), -1);
    }

    private static void shareIs(int people, int p, int above, int below) {
        due("share " + people + " " + p + " 0", x.share(people, p, 0), above);
        due("share " + people + " " + p + " 1", x.share(people, p, 1), below);
    }

    private static void shares() {
        says("by all orders in which they may come together, on the mean", 0, 0, 0, 0, 0);
        for (int p = 0; p < 5; p++) skilled(p, p, 1);
        int[] above = {100, 50, 100, 25, 20};
        int[] below = {1, 1, 3, 1, 1};
        for (int n = 1; n <= 5; n++) {
            for (int p = 0; p < n; p++) shareIs((1 << n) - 1, p, above[n - 1], below[n - 1]);
        }
        says("(of the last of eight, too)", 0, 0, 0, 0, 0, 0, 0, 0);
        skilled(0, 7, 1);
        skilled(1, 0, 1);
        shareIs(128, 7, 100, 1);
        shareIs(129, 7, 50, 1);
        shareIs(129, 0, 50, 1);
        shareIs(3, 0, 100, 1);
        says("(of SKILLS that some know and some do not)", 0, 0, 0, 0, 0);
        skilled(0, 0, 7);
        skilled(1, 1, 3);
        skilled(2, 2, 1);
        skilled(3, 3, 8);
        shareIs(15, 0, 550, 3);
        shareIs(15, 1, 250, 3);
        shareIs(15, 2, 100, 3);
        shareIs(15, 3, 100, 1);
        shareIs(31, 4, 0, 1);
        says("100 for each of the 12 SKILLS", 0, 0);
        skilled(0, 0, 4095);
        shareIs(1, 0, 1200, 1);
        skilled(39, 1, 2049);
        shareIs(3, 0, 1100, 1);
        shareIs(3, 1, 100, 1);
        says("that some YEAR that one of them owns teaches (each SKILL once; a pawned one is its pawner's)", 0, 0);
        skilled(0, 0, 1);
        skilled(1, 0, 3);
        deals("0a]b0;1a]b0", 2);
        shareIs(3, 0, 200, 1);
        shareIs(3, 1, 0, 1);
        deals("1a[b;1a=b", 2);
        shareIs(3, 0, 50, 1);
        shareIs(3, 1, 150, 1);
        says("without a common divisor", 0, 0, 0, 0);
        skilled(0, 0, 3);
        for (int p = 1; p < 4; p++) skilled(p, p, p < 3 ? 3 : 1);
        shareIs(15, 0, 175, 3);
        shareIs(15, 3, 25, 1);
    }

    private static void sharesBounds() {
        says("SHARES of told PEOPLE (1 to 5)", 0, 0, 0, 0, 0, 0, 0, 0);
        due("none", x.share(0, 0, 0), -1);
        due("five", x.share(31, 0, 0), 0);
        due("the last five", x.share(248, 7, 1), 1);
        due("six", x.share(63, 0, 0), -1);
        due("eight", x.share(255, 0, 0), -1);
        for (int people : new int[] {-1, 256, 257, LOW, LOW + 1, HIGH}) due("people " + people, x.share(people, 0, 0), -1);
        says("share: NONE: no such ones", 0, 0, 0);
        due("not told", x.share(9, 0, 0), -1);
        due("not told, itself", x.share(8, 3, 0), -1);
        due("not one of them", x.share(3, 2, 0), -1);
        for (int p : new int[] {-1, 3, 7, 8, 32, LOW, HIGH}) due("person " + p, x.share(1, p, 0), -1);
        for (int what : new int[] {-1, 2, LOW, HIGH}) due("what " + what, x.share(1, 0, what), -1);
        due("one", x.share(4, 2, 0), 0);
    }

    private static void marked(int y, int date, int mark) {
        yes("year " + y, x.year(y, date, 0, 0, 0, false, mark));
    }

    private static void forgedIs(long fewest, long ways) {
        due("forged 0", x.forged(-1, 0), fewest);
        due("forged 1", x.forged(-1, 1), ways);
    }

    private static void forgedFewest() {
        says("the fewest of all told YEARS that are forged (none is told)", 0);
        forgedIs(0, 1);
        says("MARKS of YEARS of one DATE must agree", 0);
        marked(0, 5, 0);
        forgedIs(0, 1);
        marked(1, 5, 0);
        forgedIs(0, 1);
        marked(2, 5, 9);
        forgedIs(1, 1);
        marked(3, 5, 9);
        forgedIs(2, 2);
        marked(4, 5, 9);
        forgedIs(2, 1);
        says("(of another DATE they need not)", 0);
        marked(0, 0, 1);
        marked(39, 99, 2);
        forgedIs(0, 1);
        says("(of all DATES: 0 and 99)", 0);
        for (int y = 0; y < 3; y++) marked(y, 0, y / 2);
        for (int y = 37; y < 40; y++) marked(y, 99, y / 39);
        forgedIs(2, 1);
        says("(forty of one DATE)", 0);
        for (int y = 0; y < 40; y++) marked(y, 50, y % 10);
        forgedIs(36, 10);
        marked(0, 50, 1);
        forgedIs(35, 1);
    }

    private static void forgedWays() {
        says("in how many ways", 0);
        marked(0, 1, 3);
        marked(1, 1, 4);
        forgedIs(1, 2);
        marked(2, 2, 3);
        marked(3, 2, 4);
        marked(4, 2, 5);
        forgedIs(3, 6);
        marked(5, 2, 5);
        forgedIs(3, 2);
        marked(6, 3, 7);
        forgedIs(3, 2);
        says("in how many ways (most of all)", 0);
        for (int y = 0; y < 40; y++) marked(y, Math.min(y / 3, 12), y < 36 ? y % 3 : y - 36);
        forgedIs(27, 2125764);
        says("in how many ways (twenty twos)", 0);
        for (int y = 0; y < 40; y++) marked(y, y / 2, y % 2);
        forgedIs(20, 1048576);
    }

    private static void forgedYears() {
        says("whether a YEAR may be among them (in some way with fewest)", 0);
        marked(0, 5, 0);
        marked(1, 5, 0);
        marked(2, 5, 9);
        marked(3, 6, 4);
        marked(38, 7, 0);
        marked(39, 7, 9);
        int[] years = {0, 1, 2, 3, 38, 39};
        int[] want = {0, 0, 1, 0, 1, 1};
        for (int i = 0; i < 6; i++) due("year " + years[i], x.forged(years[i], 2), want[i]);
        marked(4, 5, 9);
        for (int y : new int[] {0, 1, 2, 4}) due("year " + y, x.forged(y, 2), 1);
        marked(5, 5, 9);
        for (int y : new int[] {0, 1, 2, 4, 5}) due("year " + y, x.forged(y, 2), y < 2 ? 1 : 0);
        says("forged: -1: no such ones", 0);
        marked(0, 5, 0);
        for (int y : new int[] {-1, 1, 39, 40, 64, LOW, HIGH}) due("year " + y, x.forged(y, 2), -1);
        for (int what : new int[] {-1, 3, LOW, HIGH}) due("what " + what, x.forged(0, what), -1);
        says("(y is not looked at else)", 0);
        marked(0, 5, 0);
        for (int y : new int[] {-1, 1, 40, LOW, HIGH}) {
            due("year " + y, x.forged(y, 0), 0);
            due("year " + y, x.forged(y, 1), 1);
        }
    }

    private static void dealtIn() {
        says("how many YEARS with a DEED have had n HANDS or more (0 to 16)", 0, 0);
        deed(0, 0, 0);
        deed(20, 0, 0);
        deed(39, 0, 0);
        year(1, 0, 0);
        deals("20a=b", 1);
        for (int i = 0; i < 7; i++) deals("39a=b;39b=a;1a=b;1b=a", 4);
        for (int n = 0; n <= 16; n++) due("n " + n, x.dealtIn(n), n < 2 ? 3 : n == 2 ? 2 : n < 16 ? 1 : 0);
        deals("39a=b", 1);
        due("sixteen", x.dealtIn(16), 1);
        deals("39b=a", 1);
        due("sixteen alone are remembered", x.dealtIn(16), 1);
        says("(a pawn does not add to HANDS)", 0, 0);
        deed(0, 0, 0);
        deals("0a]b0", 1);
        due("two", x.dealtIn(2), 0);
        says("dealtIn: NONE: no such n", 0);
        for (int n : new int[] {-1, 17, LOW, HIGH}) due("n " + n, x.dealtIn(n), -1);
        due("0", x.dealtIn(0), 0);
        due("16", x.dealtIn(16), 0);
    }

    private static void commonIs(int p, int q, int what, int want) {
        due("common " + p + " " + q + " " + what, x.common(p, q, what), want);
        due("common " + q + " " + p + " " + what, x.common(q, p, what), want);
    }

    private static void commonToTwo() {
        says("SKILLS that both KNOW", 0, 0);
        skilled(0, 0, 2051);
        skilled(1, 1, 2054);
        commonIs(0, 1, 0, 2050);
        deals("0a]b0", 1);
        commonIs(0, 1, 0, 2050);
        deals("0a[b;0a=b", 2);
        commonIs(0, 1, 0, 0);
        says("YEARS that both have HAD", 0, 0, 0);
        for (int y : new int[] {0, 20, 39}) year(y, 50, 0);
        commonIs(0, 1, 1, 0);
        deals("0a=b;39a=c;39c=b;20a=c", 4);
        commonIs(0, 1, 1, 2);
        commonIs(0, 2, 1, 2);
        commonIs(1, 2, 1, 1);
        says("(what one holds in pawn it has not HAD)", 0, 0);
        year(0, 50, 0);
        deals("0a]b0", 1);
        commonIs(0, 1, 1, 0);
        says("of these the first DATE", 0, 0);
        year(0, 60, 0);
        year(1, 40, 0);
        year(2, 50, 0);
        year(3, 30, 0);
        deals("0a=b", 1);
        commonIs(0, 1, 2, 60);
        deals("2a=b", 1);
        commonIs(0, 1, 2, 50);
        deals("1a=b", 1);
        commonIs(0, 1, 2, 40);
        says("the first DATE (0, 99)", 0, 0);
        year(0, 99, 0);
        year(39, 0, 0);
        deals("0a=b", 1);
        commonIs(0, 1, 2, 99);
        deals("39a=b", 1);
        commonIs(0, 1, 2, 0);
    }

    private static void commonBounds() {
        says("(-2: none)", 0, 0);
        year(0, 60, 0);
        commonIs(0, 1, 2, -2);
        commonIs(0, 1, 1, 0);
        commonIs(0, 1, 0, 0);
        says("common: NONE: no such ones, one twice", 0, 0);
        for (int p : new int[] {-1, 2, 7, 8, 32, LOW, HIGH}) commonIs(0, p, 0, -1);
        for (int what = 0; what < 3; what++) commonIs(1, 1, what, -1);
        for (int what : new int[] {-1, 3, LOW, HIGH}) commonIs(0, 1, what, -1);
        says("NONE ahead of -2", 0, 0);
        commonIs(0, 0, 2, -1);
        commonIs(0, 2, 2, -1);
    }

    private static void linkedIs(int p, int q, int what, int want) {
        due("linked " + p + " " + q + " " + what, x.linked(p, q, what), want);
    }

    private static void linkedSteps() {
        says("LINKED are two PEOPLE who both have HAD one YEAR: the fewest such steps", 0, 0, 0, 0, 0, 0, 0, 0);
        for (int p = 0; p < 7; p++) {
            year(p, 0, p);
            deals(p + "" + (char) ('a' + p) + "=" + (char) ('b' + p), 1);
        }
        for (int p = 0; p < 8; p++) {
            for (int q = 0; q < 8; q++) linkedIs(p, q, -1, Math.abs(p - q));
        }
        for (int what = 0; what < 8; what++) {
            linkedIs(0, 7, what, what);
            linkedIs(7, 0, what, 7 - what);
        }
        says("(0: the same one)", 0, 0);
        linkedIs(0, 0, -1, 0);
        linkedIs(1, 1, 0, 1);
        linkedIs(1, 1, 1, -3);
        says("(by one YEAR of many HANDS)", 0, 0, 0, 0);
        year(39, 0, 0);
        deals("39a=b;39b=c;39c=d", 3);
        for (int p = 0; p < 4; p++) {
            for (int q = 0; q < 4; q++) linkedIs(p, q, -1, p == q ? 0 : 1);
        }
        says("(the 17th hand is not remembered; a pawn links nobody)", 0, 0, 0, 0);
        year(0, 0, 0);
        year(1, 0, 0);
        for (int i = 0; i < 8; i++) deals("0a=b;0b=a", 2);
        deals("0a=c;1a]d0", 2);
        linkedIs(0, 1, -1, 1);
        linkedIs(0, 2, -1, -2);
        linkedIs(0, 3, -1, -2);
    }

    private static void linkedAgain() {
        says("(asked again when a YEAR is told anew, or undone)", 0, 0, 0);
        x.keep();
        year(0, 0, 0);
        year(1, 0, 1);
        deals("0a=b;1b=c", 2);
        linkedIs(0, 2, -1, 2);
        year(1, 0, 2);
        linkedIs(0, 2, -1, -2);
        linkedIs(0, 1, -1, 1);
        yes("undo", x.undo());
        linkedIs(0, 1, -1, -2);
        linkedIs(0, 0, -1, 0);
    }

    private static void linkedRows() {
        says("by whom (of like ones the least row)", 0, 0, 0, 0, 0, 0, 0);
        for (int y = 0; y < 6; y++) year(y, 0, y < 2 ? 0 : y < 4 ? 6 : 3);
        deals("0a=c;1a=b;2g=e;3g=f;4d=c;5d=b", 6);
        linkedIs(0, 3, -1, 2);
        linkedIs(0, 3, 1, 1);
        linkedIs(3, 0, 1, 1);
        deals("2e=a;3f=a", 2);
        linkedIs(6, 3, -1, 3);
        linkedIs(6, 3, 1, 0);
        linkedIs(6, 3, 2, 1);
        says("the least row (its first step goes ahead of its second)", 0, 0, 0, 0, 0, 0);
        year(0, 0, 0);
        year(1, 0, 0);
        year(2, 0, 2);
        year(3, 0, 1);
        year(4, 0, 5);
        year(5, 0, 5);
        deals("0a=b;1a=c;2c=d;3b=e;4f=d;5f=e", 6);
        linkedIs(0, 5, -1, 3);
        int[] row = {0, 1, 4, 5};
        for (int what = 0; what < 4; what++) linkedIs(0, 5, what, row[what]);
        int[] back = {5, 3, 2, 0};
        for (int what = 0; what < 4; what++) linkedIs(5, 0, what, back[what]);
    }

    private static void linkedBounds() {
        says("the PERSON at place what (the first one 0, to the last one)", 0, 0);
        year(0, 0, 0);
        deals("0a=b", 1);
        linkedIs(0, 1, 0, 0);
        linkedIs(0, 1, 1, 1);
        linkedIs(1, 0, 0, 1);
        says("-3: no such place", 0, 0);
        year(0, 0, 0);
        deals("0a=b", 1);
        for (int what : new int[] {2, 7, 8, -2, LOW, HIGH}) linkedIs(0, 1, what, -3);
        says("-2: they are not", 0, 0);
        year(0, 0, 0);
        linkedIs(0, 1, -1, -2);
        linkedIs(0, 1, 0, -2);
        linkedIs(1, 0, 1, -2);
        says("-3: no such ones (not NONE)", 0);
        for (int p : new int[] {-1, 1, 7, 8, 32, LOW, HIGH}) {
            linkedIs(0, p, -1, -3);
            linkedIs(p, 0, 0, -3);
            linkedIs(p, p, -1, -3);
        }
        says("-3 of a place that is not there behind -2", 0, 0);
        linkedIs(0, 1, 99, -2);
        linkedIs(0, 1, -2, -2);
    }

    private static void regimeIs(int p, int from, int to, int want) {
        due("regime " + p + " " + from + " " + to, x.regime(p, from, to), want);
    }

    private static void regimeDates() {
        says("for each of its DATES of which one owns a YEAR 10", 0, 0);
        year(0, 0, 0);
        year(1, 5, 0);
        year(2, 5, 0);
        year(39, 99, 0);
        year(4, 7, 1);
        regimeIs(0, 0, 0, 10);
        regimeIs(0, 0, 4, 10);
        regimeIs(0, 0, 5, 20);
        regimeIs(0, 1, 4, 0);
        regimeIs(0, 5, 5, 10);
        regimeIs(0, 6, 98, 0);
        regimeIs(0, 99, 99, 10);
        regimeIs(0, 0, 99, 30);
        regimeIs(1, 0, 99, 10);
        says("1 more for each SKILL that one KNOWS by YEARS of these DATES", 0, 0);
        yes("year", x.year(0, 10, 0, 3, 0, false, 0));
        yes("year", x.year(1, 10, 0, 6, 0, false, 0));
        yes("year", x.year(2, 20, 0, 2048, 0, false, 0));
        yes("year", x.year(3, 30, 1, 4095, 0, false, 0));
        regimeIs(0, 10, 10, 13);
        regimeIs(0, 11, 20, 11);
        regimeIs(0, 10, 20, 24);
        regimeIs(1, 0, 99, 22);
        says("of which one owns (a pawned one, too; not what one had)", 0, 0);
        skilled(0, 0, 1);
        skilled(1, 0, 2);
        deals("0a]b0;1a=b", 2);
        regimeIs(0, 0, 99, 11);
        regimeIs(1, 0, 99, 11);
        says("(all forty)", 0);
        for (int y = 0; y < 40; y++) yes("year", x.year(y, 99 - 2 * y, 0, 1 << y % 12, 0, false, 0));
        regimeIs(0, 0, 99, 412);
    }

    private static void regimeBounds() {
        says("DATES 0 to 99, the second one not below the first", 0);
        regimeIs(0, 0, 99, 0);
        regimeIs(0, 50, 50, 0);
        regimeIs(0, 50, 49, -1);
        regimeIs(0, 99, 0, -1);
        regimeIs(0, -1, 50, -1);
        regimeIs(0, 50, 100, -1);
        regimeIs(0, 100, 100, -1);
        regimeIs(0, -1, -1, -1);
        regimeIs(0, LOW, HIGH, -1);
        regimeIs(0, 0, HIGH, -1);
        regimeIs(0, LOW, 0, -1);
        says("regime: NONE: no such ones", 0);
        for (int p : new int[] {-1, 1, 7, 8, 32, LOW, HIGH}) regimeIs(p, 0, 99, -1);
    }
}
