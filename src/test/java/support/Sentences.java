/** What tests by sentence share: the words of ../shared/DOC.md that a run of calls on a new object stands for. */
abstract class Sentences {
    static final int LOW = Integer.MIN_VALUE;
    static final int HIGH = Integer.MAX_VALUE;
    static YearTrade x;
    private static int sentences = 0;
    private static int wrong = 0;
    private static String sentence;

    /** What the document says, on a new object with PEOPLE 0 on who have these COINS. */
    static void says(String words, int... coins) {
        sentences++;
        sentence = words;
        x = new YearTrade();
        for (int p = 0; p < coins.length; p++) x.person(p, coins[p]);
    }

    static void end() {
        System.out.println(sentences + " sentences, " + (wrong == 0 ? "all answers are as due" : wrong + " answers are not as due"));
        if (wrong != 0) System.exit(1);
    }

    static void due(String call, long got, long want) {
        if (got == want) return;
        wrong++;
        System.out.println("\"" + sentence + "\": " + call + " answered " + got + ", due is " + want);
    }

    static void yes(String call, boolean got) {
        due(call, got ? 1 : 0, 1);
    }

    static void no(String call, boolean got) {
        due(call, got ? 1 : 0, 0);
    }

    /** Feeds these bytes, and an 'a' for each one that is lacking to twenty; the answer is how many bytes matter. */
    static int bytes(int... row) {
        for (int at = 0; at < row.length; at += 20) {
            int[] five = new int[5];
            for (int i = 0; i < 20; i++) five[i / 4] = five[i / 4] << 8 | (at + i < row.length ? row[at + i] : 'a');
            x.feed(five[0], five[1], five[2], five[3], five[4]);
        }
        return row.length;
    }

    static int text(String signs) {
        return bytes(signs.chars().toArray());
    }

    static void fill(int times) {
        for (int i = 0; i < times; i++) x.feed(0, 0, 0, 0, 0);
    }

    static void law(String signs, int want) {
        due("law " + signs, x.law(text(signs)), want);
    }

    static void deals(String signs, int want) {
        due("deals " + signs, x.deals(text(signs)), want);
    }

    static void judged(String signs, int want) {
        due("judged " + signs, x.judged(text(signs)), want);
    }

    static void inOrder(String signs, int what, int want) {
        due("inOrder " + signs + " " + what, x.inOrder(text(signs), what), want);
    }

    static void year(int y, int date, int liver) {
        yes("year " + y, x.year(y, date, liver, 0, 0, false, 0));
    }

    static void skilled(int y, int liver, int skills) {
        yes("year " + y, x.year(y, y, liver, skills, 0, false, 0));
    }

    static void yearIs(int y, int what, int want) {
        due("yearIs " + y + " " + what, x.yearIs(y, what), want);
    }

    static void personIs(int p, int what, int want) {
        due("personIs " + p + " " + what, x.personIs(p, what), want);
    }

    static void count(int what, int want) {
        due("count " + what, x.count(what), want);
    }

    static void days(int n, int want) {
        due("days " + n, x.days(n), want);
    }

    /** The law in which v is this for everybody. */
    static void worth(String amount, int y, int p, int want) {
        law("v" + amount + "(1=1)", 1);
        due("worth of v" + amount, x.worth(y, p), want);
    }

    /** The least X behind which this is drawn. */
    static int seedOf(int draw) {
        int seed = 0;
        while ((25173L * seed + 13849) % 65536 % 10 != draw) seed++;
        return seed;
    }
}
