import java.util.ArrayList;
import java.util.Arrays;
import java.util.HashMap;
import java.util.HashSet;
import java.util.List;
import java.util.Map;
import java.util.Random;
import java.util.Set;
import java.util.TreeSet;

/** Random runs of calls, each answer compared with that of a plain model: orders, sets and rows are all tried out. */
public final class ModelTest {
    /** Nothing is promised about an object after so many calls. */
    private static final int MOST = 512;
    private static int wrong = 0;

    public static void main(String[] args) {
        int runs = args.length > 0 ? Integer.parseInt(args[0]) : 2500;
        Map<String, Set<Long>> seen = new HashMap<>();
        for (int run = 0; run < runs && wrong == 0; run++) new Run(run, seen).play();
        if (args.length > 1) seen.forEach((k, v) -> System.out.println(k + " " + v.size() + " " + v.stream().sorted().limit(12).toList()));
        System.out.println(wrong == 0 ? "all answers are as the model's" : "an answer is not as the model's");
        if (wrong != 0) System.exit(1);
    }

    /** One object, its model, and the calls so far. */
    private static final class Run {
        final Random random;
        final int number;
        final YearTrade x = new YearTrade();
        final Model m = new Model();
        final List<String> calls = new ArrayList<>();
        final Map<String, Set<Long>> seen;
        final int people;
        final int dates;
        int made = 0;

        Run(int number, Map<String, Set<Long>> seen) {
            this.number = number;
            this.seen = seen;
            random = new Random(number);
            people = 2 + random.nextInt(7);
            dates = 1 + random.nextInt(8);
        }

        int below(int n) {
            return random.nextInt(n);
        }

        /** Now and then a number that is out of bounds. */
        int odd(int n) {
            if (below(40) != 0) return below(n);
            int[] far = {-1, -2, n, n + 1, Integer.MIN_VALUE, Integer.MAX_VALUE, 100, -100};
            return far[below(far.length)];
        }

        void due(String call, long got, long want) {
            made++;
            calls.add(call + " -> " + got);
            seen.computeIfAbsent(call.substring(0, call.indexOf('(')), k -> new HashSet<>()).add(got);
            if (got == want || wrong > 0) return;
            wrong++;
            System.out.println("run " + number + ": the model answers " + want + " to the last one");
            for (String line : calls) System.out.println("  " + line);
        }

        void feed(int[] row) {
            if (m.tape.length() + row.length > 240 && below(3) > 0) empty();
            for (int at = 0; at == 0 || at < row.length; at += 20) {
                int[] f = new int[5];
                for (int i = 0; i < 20; i++) f[i / 4] = f[i / 4] << 8 | (at + i < row.length ? row[at + i] & 255 : 'a');
                due("feed(" + Arrays.toString(f) + ")", x.feed(f[0], f[1], f[2], f[3], f[4]), m.feed(f));
            }
        }

        void empty() {
            if (!m.tape.isEmpty()) due("check(0)", x.check(0), m.check(0));
        }

        int text(String s) {
            if (below(60) == 0) return odd(270);
            empty();
            calls.add("  text " + s);
            feed(s.chars().toArray());
            return below(60) == 0 ? odd(250) : s.length();
        }

        void play() {
            for (int p = 0; p < people; p++) if (below(8) > 0) person(p);
            int years = 3 + below(14);
            for (int i = 0; i < years; i++) year();
            for (int i = 0; i < 130 && made < MOST - 70 && wrong == 0; i++) {
                step();
                if (below(30) == 0 && made < MOST - 70) look(below(40));
            }
            for (int i = 0; i < 40 && wrong == 0; i++) look(i);
        }

        /** What can be seen of a YEAR and a PERSON, as far as the calls go that are promised. */
        void look(int i) {
            List<Integer> told = m.toldYears();
            int p = i % people;
            for (int w = 0; w < 5 && made < MOST; w++) due("personIs(" + p + ", " + w + ")", x.personIs(p, w), m.personIs(p, w));
            if (i >= told.size()) return;
            int y = told.get(i);
            for (int w = 0; w < 36 && made < MOST; w++) due("yearIs(" + y + ", " + w + ")", x.yearIs(y, w), m.yearIs(y, w));
        }

        void person(int p) {
            int[] coins = {0, 5, 99999, 99990, 100, 50, 500, 100000, -1, 3000};
            int c = below(3) == 0 ? below(1000) : coins[below(coins.length)];
            due("person(" + p + ", " + c + ")", x.person(p, c) ? 1 : 0, m.person(p, c));
        }

        void year() {
            int y = below(3) == 0 ? odd(40) : below(12);
            int date = odd(dates), liver = odd(people), skills = below(2) == 0 ? odd(4096) : 1 << below(12) | 1 << below(12);
            int met = odd(256) & (below(4) == 0 ? -1 : m.told()) & (below(4) == 0 ? -1 : ~(1 << liver)), mark = odd(3);
            boolean deed = below(3) > 0;
            due("year(" + y + ", " + date + ", " + liver + ", " + skills + ", " + met + ", " + deed + ", " + mark + ")",
                    x.year(y, date, liver, skills, met, deed, mark) ? 1 : 0, m.year(y, date, liver, skills, met, deed, mark));
        }

        int someYear() {
            List<Integer> told = m.toldYears();
            return told.isEmpty() || below(10) == 0 ? odd(40) : told.get(below(told.size()));
        }

        int[] row(int most) {
            int[] row = new int[1 + below(most)];
            List<Integer> told = new ArrayList<>(m.toldYears());
            Set<Integer> owners = new HashSet<>();
            for (int i = 0; i < row.length; i++) {
                row[i] = someYear() & 255;
                if (below(8) == 0) continue;
                java.util.Collections.shuffle(told, random);
                for (int y : told) {
                    if (m.now.holder[y] == -2 && owners.add(m.now.owner[y])) {
                        row[i] = y;
                        break;
                    }
                }
            }
            return row;
        }

        String act() {
            int y = someYear();
            if (y < 0 || y > 39) y = below(45);
            boolean told = m.now.year(y), pawned = told && m.now.holder[y] != -2;
            int p = told && below(6) > 0 ? m.now.owner[y] : below(people);
            int q = pawned && below(2) == 0 ? m.now.holder[y] : below(people);
            if (p == q && below(10) > 0) q = (p + 1) % people;
            String sign = pawned && below(2) == 0 ? "[" : ">]=[".charAt(below(4)) + "";
            String price = sign.equals(">") || sign.equals("]") ? "" + (below(12) == 0 ? below(9999) : below(40)) : "";
            return y + "" + (char) ('a' + p) + sign + (char) ('a' + q) + price;
        }

        String mutated(String s) {
            if (below(6) > 0) return s;
            StringBuilder b = new StringBuilder(s);
            int at = below(b.length());
            String signs = "0123456789()[]!&|<>=+-*/%;tydlosmkhpaceznvifgb A";
            char sign = signs.charAt(below(signs.length()));
            int way = below(3);
            if (way == 0) b.setCharAt(at, sign);
            else if (way == 1) b.insert(at, sign);
            else if (b.length() > 1) b.deleteCharAt(at);
            return b.toString();
        }

        String deals(int most) {
            StringBuilder b = new StringBuilder(act());
            int n = below(most);
            for (int i = 0; i < n; i++) b.append(';').append(act());
            return mutated(b.toString());
        }

        /** ACTS that could be done as they were made, then mixed. */
        String toAndFro() {
            State s = m.now.copy();
            List<String> acts = new ArrayList<>();
            for (int i = 0; i < 200 && acts.size() < 2 + below(5); i++) {
                int y = someYear();
                if (!s.year(y)) continue;
                int p = s.owner[y], q = s.holder[y] == -2 ? below(people) : s.holder[y];
                if (p == q) continue;
                char sign = s.holder[y] == -2 ? ">]=".charAt(below(3)) : '[';
                int price = sign == '=' || sign == '[' ? 0 : below(3) == 0 ? s.coins[q] % 10000 : below(12);
                if (m.act(s, new Act(y, p, sign, q, price))) {
                    acts.add(y + "" + (char) ('a' + p) + sign + (char) ('a' + q) + (sign == '>' || sign == ']' ? "" + price : ""));
                }
            }
            java.util.Collections.shuffle(acts, random);
            return acts.isEmpty() ? act() : String.join(";", acts);
        }

        String law() {
            StringBuilder b = new StringBuilder();
            int n = below(30) == 0 ? 18 : 1 + below(6);
            for (int i = 0; i < n; i++) {
                String kind = "nvvvvifgg".substring(below(9)).substring(0, 1);
                if (i > 0) b.append(';');
                b.append(kind);
                if (!kind.equals("n")) b.append(n > 10 ? "5" : kind.equals("f") ? below(11) + "" : expression(0));
                b.append('(').append(n > 10 || below(3) == 0 && !kind.equals("n") ? "1=1" : condition(1)).append(')');
            }
            return mutated(b.toString());
        }

        String condition(int depth) {
            StringBuilder b = new StringBuilder(piece(depth));
            while (below(4) == 0) b.append("&|".charAt(below(2))).append(piece(depth));
            return b.toString();
        }

        String piece(int depth) {
            int way = below(10);
            if (depth < 7 && way == 0) return "(" + condition(depth + 1) + ")";
            if (depth < 7 && way == 1) return "!" + piece(depth + 1);
            return expression(depth) + "<>=".charAt(below(3)) + expression(depth);
        }

        String expression(int depth) {
            StringBuilder b = new StringBuilder(factor(depth));
            while (below(3) == 0) b.append("+-*/%".charAt(below(5))).append(factor(depth));
            return b.toString();
        }

        String factor(int depth) {
            if (depth < 7 && below(8) == 0) return "[" + expression(depth + 1) + "]";
            String letters = "tydlosmkhpacez";
            if (below(2) == 0) return "" + letters.charAt(below(letters.length()));
            return "" + (below(20) == 0 ? below(130000) : below(12));
        }

        void step() {
            int p = odd(people), q = odd(people), y = someYear(), n;
            switch (below(36)) {
                case 0: person(odd(people)); break;
                case 1: year(); break;
                case 2: case 3: n = text(law()); due("law(" + n + ")", x.law(n), m.law(n)); break;
                case 4: case 5: case 6: case 7: case 8: n = text(deals(below(30) == 0 ? 17 : 5)); due("deals(" + n + ")", x.deals(n), m.deals(n)); break;
                case 9: n = text(deals(6)); due("judged(" + n + ")", x.judged(n), m.judged(n)); break;
                case 10: { int w = below(2) == 0 ? odd(10) : 20 + odd(16); due("yearIs(" + y + ", " + w + ")", x.yearIs(y, w), m.yearIs(y, w)); break; }
                case 11: { int w = odd(5); due("personIs(" + p + ", " + w + ")", x.personIs(p, w), m.personIs(p, w)); break; }
                case 12: { int w = odd(4); due("years(" + p + ", " + w + ")", x.years(p, w), m.years(p, w)); break; }
                case 13: case 14: due("worth(" + y + ", " + p + ")", x.worth(y, p), m.worth(y, p)); break;
                case 15: case 16: { int z = odd(below(2) == 0 ? 10 : 10000); due("may(" + y + ", " + p + ", " + z + ")", x.may(y, p, z), m.may(y, p, z)); break; }
                case 17: due("clashes(" + p + ")", x.clashes(p), m.clashes(p)); break;
                case 18: { int i = odd(6), w = odd(3); due("givenBack(" + p + ", " + i + ", " + w + ")", x.givenBack(p, i, w), m.givenBack(p, i, w)); break; }
                case 19: { int w = odd(3); due("deeds(" + p + ", " + w + ")", x.deeds(p, w), m.deeds(p, w)); break; }
                case 20: case 21: { int s = below(2) == 0 ? odd(4096) : odd(64), w = odd(3); due("taught(" + p + ", " + s + ", " + w + ")", x.taught(p, s, w), m.taught(p, s, w)); break; }
                case 22: { int g = odd(256) & (below(6) == 0 ? -1 : m.told()), w = odd(2); due("share(" + g + ", " + p + ", " + w + ")", x.share(g, p, w), m.share(g, p, w)); break; }
                case 23: case 24: sold(); break;
                case 25: case 26: ring(); break;
                case 27: { int w = odd(3); due("forged(" + y + ", " + w + ")", x.forged(y, w), m.forged(y, w)); break; }
                case 28: { int k = odd(17); due("dealtIn(" + k + ")", x.dealtIn(k), m.dealtIn(k)); break; }
                case 29: { int k = below(8) == 0 ? odd(101) : 1 + below(2); due("days(" + k + ")", x.days(k), m.days(k)); break; }
                case 30: { int k = 1 + odd(9), w = below(2) == 0 ? odd(2) : 10 + odd(people); due("tried(" + k + ", " + w + ")", x.tried(k, w), m.tried(k, w)); break; }
                case 31: { n = text(below(2) == 0 ? toAndFro() : deals(below(8) == 0 ? 8 : 6)); int w = below(3) == 0 ? -1 : odd(7) - 1; due("inOrder(" + n + ", " + w + ")", x.inOrder(n, w), m.inOrder(n, w)); break; }
                case 32: { int w = odd(3); due("common(" + p + ", " + q + ", " + w + ")", x.common(p, q, w), m.common(p, q, w)); break; }
                case 33: { int w = odd(5) - 1; due("linked(" + p + ", " + q + ", " + w + ")", x.linked(p, q, w), m.linked(p, q, w)); break; }
                case 34: { int a = odd(dates), b = odd(dates); due("regime(" + p + ", " + a + ", " + b + ")", x.regime(p, a, b), m.regime(p, a, b)); break; }
                default: rest(); break;
            }
        }

        void sold() {
            int[] row = row(6);
            empty();
            feed(row);
            int n = below(20) == 0 ? odd(8) : row.length;
            int group = odd(256) & (below(8) == 0 ? -1 : m.told());
            int what = below(3) == 0 ? 10 : below(2) == 0 ? 20 + odd(8) : odd(Math.max(1, n));
            due("sold(" + n + ", " + group + ", " + what + ")", x.sold(n, group, what), m.sold(n, group, what));
        }

        void ring() {
            int[] row = row(8);
            empty();
            feed(row);
            int n = below(20) == 0 ? odd(9) : row.length;
            int what = below(3) == 0 ? 10 : odd(Math.max(1, n));
            due("ring(" + n + ", " + what + ")", x.ring(n, what), m.ring(n, what));
        }

        void rest() {
            int way = below(5);
            if (way == 0) { int s = odd(65536); due("seed(" + s + ")", x.seed(s) ? 1 : 0, m.seed(s)); }
            if (way == 1) due("keep()", x.keep(), m.keep());
            if (way == 2) due("undo()", x.undo() ? 1 : 0, m.undo());
            if (way == 3) {
                int n = odd(41);
                int[] row = new int[4 * Math.max(0, Math.min(40, n))];
                for (int i = 0; i < row.length / 4; i++) row[4 * i + 3] = m.now.told[i] && below(50) > 0 ? m.now.owner[i] : 0;
                empty();
                feed(row);
                due("check(" + n + ")", x.check(n), m.check(n));
            }
            for (int w = -1; w <= 9; w++) due("count(" + w + ")", x.count(w), m.count(w));
        }
    }

    /** What is kept and undone. */
    private static final class State {
        boolean[] is = new boolean[8], told = new boolean[40], deed = new boolean[40];
        int[] coins = new int[8];
        int[] date = new int[40], liver = new int[40], skills = new int[40], met = new int[40], mark = new int[40];
        int[] owner = new int[40], holder = new int[40], lent = new int[40], owed = new int[40];
        List<List<Integer>> hands = new ArrayList<>();
        int today = 0;
        long x = 1;

        State() {
            for (int y = 0; y < 40; y++) hands.add(new ArrayList<>());
            Arrays.fill(holder, -2);
        }

        State copy() {
            State s = new State();
            s.is = is.clone(); s.told = told.clone(); s.deed = deed.clone(); s.coins = coins.clone();
            s.date = date.clone(); s.liver = liver.clone(); s.skills = skills.clone(); s.met = met.clone(); s.mark = mark.clone();
            s.owner = owner.clone(); s.holder = holder.clone(); s.lent = lent.clone(); s.owed = owed.clone();
            for (int y = 0; y < 40; y++) s.hands.set(y, new ArrayList<>(hands.get(y)));
            s.today = today;
            s.x = x;
            return s;
        }

        boolean person(int p) { return p >= 0 && p < 8 && is[p]; }
        boolean year(int y) { return y >= 0 && y < 40 && told[y]; }
        boolean group(int g) {
            for (int b = 0; b < 32; b++) if ((g >>> b & 1) == 1 && !person(b)) return false;
            return true;
        }
        List<Integer> owns(int p) {
            List<Integer> r = new ArrayList<>();
            for (int y = 0; y < 40; y++) if (told[y] && owner[y] == p) r.add(y);
            return r;
        }
        List<Integer> had(int p) {
            List<Integer> r = new ArrayList<>();
            for (int y = 0; y < 40; y++) if (told[y] && hands.get(y).contains(p)) r.add(y);
            return r;
        }
        int knows(int p) {
            int k = 0;
            for (int y : owns(p)) k |= skills[y];
            return k;
        }
        void goes(int y, int p) {
            owner[y] = p;
            holder[y] = -2;
            if (hands.get(y).size() < 16) hands.get(y).add(p);
        }
        void earn(int p, long more) { coins[p] = (int) Math.min(99999L, coins[p] + more); }
    }

    private static final class Fault extends RuntimeException {
        final int code;
        Fault(int number, int place) { super(null, null, false, false); code = -1000 * number - place; }
    }

    private static final class Refused extends RuntimeException {
        Refused() { super(null, null, false, false); }
    }

    private record Act(int y, int p, char sign, int q, int price) { }
    private record Clause(char kind, Node amount, Node condition) { }

    /** A tree of kinds: its value is reckoned by walking. */
    private interface Node { int of(Asked a); }

    private record Asked(State s, Integer y, Integer p, int z) {
        int letter(char c) {
            boolean yearToo = y != null;
            switch (c) {
                case 't': return s.today;
                case 'p': return p;
                case 'a': return s.owns(p).size();
                case 'c': return s.coins[p];
                case 'z': return yearToo ? z : 0;
                default: if (!yearToo) return 0;
            }
            switch (c) {
                case 'y': return y;
                case 'd': return s.date[y];
                case 'l': return s.liver[y];
                case 'o': return s.owner[y];
                case 's': return Integer.bitCount(s.skills[y]);
                case 'm': return Integer.bitCount(s.met[y]);
                case 'k': return s.deed[y] ? 1 : 0;
                case 'h': return s.hands.get(y).size();
                default: break;
            }
            int n = 0;
            for (int b = 0; b < 12; b++) {
                boolean others = false;
                for (int o : s.owns(p)) others |= o != y && (s.skills[o] >> b & 1) == 1;
                if (others && (s.skills[y] >> b & 1) == 1) n++;
            }
            return n;
        }
    }

    /** Reads a text with a row of what is open, written down as signs. */
    private static final class Reader {
        final String s;
        int at = 0;
        String open = "";

        Reader(String s) { this.s = s; }

        char sign() { return at < s.length() ? s.charAt(at) : (char) 0; }
        boolean in(String some) { return at < s.length() && some.indexOf(sign()) >= 0; }
        char take(String some) {
            if (!in(some)) throw new Fault(1, at);
            return s.charAt(at++);
        }
        void opens(String sign) {
            if (open.length() == 6) throw new Fault(5, at);
            open += sign;
            take(sign);
        }
        void shut() { open = open.substring(0, open.length() - 1); }

        List<Clause> law() {
            List<Clause> clauses = new ArrayList<>();
            do {
                if (!in("nvifg")) throw new Fault(1, at);
                if (clauses.size() == 16) throw new Fault(4, at);
                char kind = take("nvifg");
                Node amount = kind == 'n' ? null : expression();
                if (!in("(")) throw new Fault(1, at);
                opens("(");
                Node c = condition();
                take(")");
                shut();
                clauses.add(new Clause(kind, amount, c));
            } while (at == s.length() ? false : take(";") == ';');
            return clauses;
        }

        Node condition() {
            List<Node> parts = new ArrayList<>(List.of(part()));
            while (in("|")) {
                take("|");
                parts.add(part());
            }
            return a -> {
                for (Node n : parts) if (n.of(a) == 1) return 1;
                return 0;
            };
        }

        Node part() {
            List<Node> pieces = new ArrayList<>(List.of(piece()));
            while (in("&")) {
                take("&");
                pieces.add(piece());
            }
            return a -> {
                for (Node n : pieces) if (n.of(a) == 0) return 0;
                return 1;
            };
        }

        Node piece() {
            if (in("!")) {
                opens("!");
                Node n = piece();
                shut();
                return a -> n.of(a) == 0 ? 1 : 0;
            }
            if (in("(")) {
                opens("(");
                Node n = condition();
                take(")");
                shut();
                return n;
            }
            Node left = expression();
            char sign = take("<>=");
            Node right = expression();
            return a -> {
                int l = left.of(a), r = right.of(a);
                return (sign == '<' ? l < r : sign == '>' ? l > r : l == r) ? 1 : 0;
            };
        }

        Node expression() {
            Node sum = term();
            while (in("+-")) {
                char sign = take("+-");
                Node l = sum, r = term();
                sum = a -> {
                    int left = l.of(a), right = r.of(a);
                    return sign == '+' ? left + right : left - right;
                };
            }
            return sum;
        }

        Node term() {
            Node product = factor();
            while (in("*/%")) {
                char sign = take("*/%");
                Node l = product, r = factor();
                product = a -> {
                    int left = l.of(a), right = r.of(a);
                    if (sign != '*' && right == 0) throw new Refused();
                    return sign == '*' ? left * right : sign == '/' ? left / right : left % right;
                };
            }
            return product;
        }

        Node factor() {
            if (in("[")) {
                opens("[");
                Node n = expression();
                take("]");
                shut();
                return n;
            }
            if (in("0123456789")) {
                int from = at;
                while (in("0123456789")) {
                    if (at - from == 5) throw new Fault(2, at);
                    at++;
                }
                int number = Integer.parseInt(s.substring(from, at));
                return a -> number;
            }
            char letter = take("tydlosmkhpacez");
            return a -> a.letter(letter);
        }

        List<Act> deals() {
            List<Act> acts = new ArrayList<>();
            do {
                if (!in("0123456789")) throw new Fault(1, at);
                if (acts.size() == 16) throw new Fault(4, at);
                int from = at, y = take("0123456789") - '0';
                if (in("0123456789")) y = 10 * y + take("0123456789") - '0';
                if (y > 39) throw new Fault(3, from);
                int p = take("abcdefgh") - 'a';
                char sign = take(">]=[");
                if (in((char) ('a' + p) + "")) throw new Fault(6, at);
                int q = take("abcdefgh") - 'a', price = 0;
                if (sign == '>' || sign == ']') {
                    String digits = "" + take("0123456789");
                    while (in("0123456789") && digits.length() < 4) digits += take("0123456789");
                    price = Integer.parseInt(digits);
                }
                acts.add(new Act(y, p, sign, q, price));
            } while (at == s.length() ? false : take(";") == ';');
            return acts;
        }
    }

    private static final class Model {
        State now = new State(), kept = null;
        String tape = "";
        List<Clause> law = new ArrayList<>();
        int fallen = 0;

        int told() {
            int g = 0;
            for (int p = 0; p < 8; p++) if (now.is[p]) g |= 1 << p;
            return g;
        }

        List<Integer> toldYears() {
            List<Integer> r = new ArrayList<>();
            for (int y = 0; y < 40; y++) if (now.told[y]) r.add(y);
            return r;
        }

        boolean outside(int n, int low, int high) { return n < low || n > high; }

        int person(int p, int coins) {
            if (outside(p, 0, 7) || outside(coins, 0, 99999)) return 0;
            now.is[p] = true;
            now.coins[p] = coins;
            return 1;
        }

        int year(int y, int date, int liver, int skills, int met, boolean deed, int mark) {
            if (outside(y, 0, 39) || outside(date, 0, 99) || !now.person(liver) || outside(skills, 0, 4095)) return 0;
            if (outside(met, 0, 255) || !now.group(met) || (met >> liver & 1) == 1 || outside(mark, 0, 9)) return 0;
            now.told[y] = true;
            now.date[y] = date;
            now.liver[y] = liver;
            now.skills[y] = skills;
            now.met[y] = met;
            now.deed[y] = deed;
            now.mark[y] = mark;
            now.hands.get(y).clear();
            now.goes(y, liver);
            return 1;
        }

        int feed(int[] five) {
            if (tape.length() > 240) return -1;
            for (int f : five) for (int b = 3; b >= 0; b--) tape += (char) (f >> 8 * b & 255);
            return tape.length();
        }

        String take(int n, int most) {
            if (outside(n, 1, most) || tape.length() < n) return null;
            String s = tape.substring(0, n);
            tape = "";
            return s;
        }

        int law(int n) {
            String s = take(n, 240);
            if (s == null) return -1;
            try {
                law = new Reader(s).law();
                return law.size();
            } catch (Fault f) {
                return f.code;
            }
        }

        boolean holds(Clause c, Asked a) {
            try {
                return c.condition.of(a) == 1;
            } catch (Refused r) {
                return false;
            }
        }

        boolean forbidden(State s, int y, int p, int z) {
            for (Clause c : law) if (c.kind == 'n' && holds(c, new Asked(s, y, p, z))) return true;
            return false;
        }

        int amount(State s, char kind, Integer y, Integer p, int z) {
            Asked a = new Asked(s, y, p, z);
            int bound = Map.of('v', 999, 'i', 99, 'f', 10, 'g', 999).get(kind);
            for (Clause c : law) {
                if (c.kind != kind || !holds(c, a)) continue;
                try {
                    return Math.min(bound, Math.max(0, c.amount.of(a)));
                } catch (Refused r) {
                    return 0;
                }
            }
            return 0;
        }

        boolean act(State s, Act a) {
            if (!s.year(a.y) || !s.person(a.p) || !s.person(a.q) || s.owner[a.y] != a.p) return false;
            if (a.sign == '[') {
                int owed = s.owed[a.y];
                if (s.holder[a.y] != a.q || s.coins[a.p] < owed) return false;
                s.coins[a.p] -= owed;
                s.earn(a.q, owed);
                s.holder[a.y] = -2;
                return true;
            }
            if (s.holder[a.y] != -2 || s.coins[a.q] < a.price || forbidden(s, a.y, a.q, a.price)) return false;
            s.coins[a.q] -= a.price;
            s.earn(a.p, a.price);
            if (a.sign == ']') {
                s.holder[a.y] = a.q;
                s.lent[a.y] = s.owed[a.y] = a.price;
            } else {
                s.goes(a.y, a.q);
            }
            return true;
        }

        int deals(int n) {
            String s = take(n, 160);
            if (s == null) return -1;
            try {
                int done = 0;
                for (Act a : new Reader(s).deals()) if (act(now, a)) done++;
                return done;
            } catch (Fault f) {
                return f.code;
            }
        }

        int judged(int n) {
            String s = take(n, 160);
            if (s == null) return -1;
            try {
                State trial = now.copy();
                int i = 0;
                for (Act a : new Reader(s).deals()) {
                    if (!act(trial, a)) return i;
                    i++;
                }
                return i;
            } catch (Fault f) {
                return f.code;
            }
        }

        int yearIs(int y, int what) {
            if (!now.year(y)) return -1;
            List<Integer> hands = now.hands.get(y);
            int[] answers = {now.date[y], now.liver[y], now.skills[y], now.met[y], now.deed[y] ? 1 : 0, now.mark[y], now.owner[y],
                now.holder[y], now.holder[y] == -2 ? 0 : now.owed[y], hands.size()};
            if (!outside(what, 0, 9)) return answers[what];
            return outside(what, 20, 19 + hands.size()) ? -1 : hands.get(what - 20);
        }

        int personIs(int p, int what) {
            if (!now.person(p)) return -1;
            switch (what) {
                case 0: return now.coins[p];
                case 1: return now.owns(p).size();
                case 2: return now.knows(p);
                case 3: return now.had(p).size();
                case 4: int n = 0; for (int y : toldYears()) if (now.holder[y] == p) n++; return n;
                default: return -1;
            }
        }

        int years(int p, int what) {
            if (!now.person(p) || outside(what, 0, 3)) return -1;
            int bits = 0;
            for (int y : what < 2 ? now.owns(p) : now.had(p)) if (y / 20 == what % 2) bits += 1 << y % 20;
            return bits;
        }

        int worth(int y, int p) { return now.year(y) && now.person(p) ? amount(now, 'v', y, p, 0) : -1; }

        int may(int y, int p, int z) {
            if (!now.year(y) || !now.person(p) || outside(z, 0, 9999)) return -1;
            return forbidden(now, y, p, z) ? 0 : 1;
        }

        boolean met(int y, int p) { return (now.met[y] >> p & 1) == 1; }

        boolean clash(int a, int b) {
            int la = now.liver[a], lb = now.liver[b];
            return now.date[a] == now.date[b] && la != lb && (met(a, lb) && !met(b, la) || met(b, la) && !met(a, lb));
        }

        int clashes(int p) {
            if (!now.person(p)) return -1;
            int n = 0;
            for (int a : now.owns(p)) for (int b : now.owns(p)) if (a < b && clash(a, b)) n++;
            return n;
        }

        int givenBack(int p, int i, int what) {
            if (!now.person(p) || outside(what, 0, 2)) return -1;
            TreeSet<Integer> all = new TreeSet<>();
            for (int a : now.owns(p)) for (int b : now.owns(p)) if (clash(a, b)) all.add(a);
            List<Integer> in = new ArrayList<>(all);
            if (in.size() > 12) in = in.subList(0, 12);
            if (what == 2) return outside(i, 0, in.size() - 1) ? -2 : in.get(i);
            int best = -1;
            for (int mask = (1 << in.size()) - 1; mask >= 0; mask--) {
                boolean right = true;
                for (int a = 0; a < in.size(); a++) {
                    for (int b = 0; b < a; b++) {
                        if ((mask >> a & 1) == 0 && (mask >> b & 1) == 0 && clash(in.get(a), in.get(b))) right = false;
                    }
                }
                if (right && (best < 0 || Integer.bitCount(mask) <= Integer.bitCount(best))) best = mask;
            }
            return what == 0 ? Integer.bitCount(best) : best;
        }

        int whose(int y, int rule) {
            if (rule == 0) return now.liver[y];
            if (rule == 1) return now.holder[y] == -2 ? now.owner[y] : now.holder[y];
            for (int p : now.hands.get(y)) for (int o : now.owns(p)) if (now.date[o] == now.date[y]) return p;
            return now.liver[y];
        }

        int deeds(int p, int rule) {
            if (!now.person(p) || outside(rule, 0, 2)) return -1;
            int n = 0;
            for (int y : toldYears()) if (now.deed[y] && whose(y, rule) == p) n++;
            return n;
        }

        int taught(int p, int skills, int what) {
            if (!now.person(p) || outside(skills, 0, 4095) || outside(what, 0, 2)) return -1;
            int needed = skills & ~now.knows(p);
            Map<Integer, int[]> sets = new HashMap<>();
            sets.put(0, new int[] {0, 0});
            for (int y : toldYears()) {
                int price = amount(now, 'v', y, now.owner[y], 0);
                if (now.owner[y] == p || now.holder[y] != -2 || forbidden(now, y, p, price)) continue;
                for (Map.Entry<Integer, int[]> e : new HashMap<>(sets).entrySet()) {
                    int key = e.getKey() | now.skills[y] & needed;
                    int[] with = {e.getValue()[0] + price, e.getValue()[1] + 1};
                    sets.merge(key, with, (a, b) -> a[0] < b[0] || a[0] == b[0] && a[1] <= b[1] ? a : b);
                }
            }
            if (!sets.containsKey(needed)) return -2;
            int[] best = sets.get(needed);
            return what == 2 ? (now.coins[p] >= best[0] ? 1 : 0) : best[what];
        }

        int worthTogether(int group) {
            int k = 0;
            for (int p = 0; p < 8; p++) if ((group >> p & 1) == 1) k |= now.knows(p);
            return 100 * Integer.bitCount(k);
        }

        /** The sum over all orders of what p adds, and how many orders. */
        long[] orders(int group, int before, int p) {
            long sum = 0, count = 0;
            if (group == before) return new long[] {0, 1};
            for (int q = 0; q < 8; q++) {
                int with = before | 1 << q;
                if ((group >> q & 1) == 0 || with == before) continue;
                long[] behind = orders(group, with, p);
                count += behind[1];
                sum += behind[0] + (q == p ? behind[1] * (worthTogether(with) - worthTogether(before)) : 0);
            }
            return new long[] {sum, count};
        }

        int share(int group, int p, int what) {
            if (outside(group, 1, 255) || !now.group(group) || Integer.bitCount(group) > 5) return -1;
            if (outside(p, 0, 7) || (group >> p & 1) == 0 || outside(what, 0, 1)) return -1;
            long[] mean = orders(group, 0, p);
            long d = java.math.BigInteger.valueOf(mean[0]).gcd(java.math.BigInteger.valueOf(mean[1])).longValue();
            return (int) (mean[what] / d);
        }

        /** All rows of who gets what; the first of the best ones, and its sum behind it. */
        int[] bestRow(String row, int i, int left) {
            if (i == row.length()) return new int[] {0};
            int[] best = null;
            int y = row.charAt(i);
            for (int p = 0; p <= 8; p++) {
                if (p < 8 && ((left >> p & 1) == 0 || now.owner[y] == p)) continue;
                int[] rest = bestRow(row, i + 1, p == 8 ? left : left & ~(1 << p));
                int[] all = new int[rest.length + 1];
                System.arraycopy(rest, 0, all, 1, rest.length);
                all[0] = p;
                if (p < 8) all[all.length - 1] += amount(now, 'v', y, p, 0);
                if (best == null || all[all.length - 1] > best[best.length - 1]) best = all;
            }
            return best;
        }

        int sold(int n, int group, int what) {
            String row = take(n, 6);
            if (row == null) return -1;
            for (int i = 0; i < n; i++) {
                int y = row.charAt(i);
                if (!now.year(y) || now.holder[y] != -2 || row.indexOf(y) != i) return -2;
            }
            boolean place = !outside(what, 0, n - 1) || what == 10 || !outside(what, 20, 27) && (group >> what - 20 & 1) == 1;
            if (outside(group, 0, 255) || !now.group(group) || !place) return -3;
            int[] best = bestRow(row, 0, group);
            if (what == 10) return best[n];
            if (what < n) return best[what];
            int p = what - 20, others = 0;
            for (int i = 0; i < n; i++) if (best[i] != p && best[i] != 8) others += amount(now, 'v', (int) row.charAt(i), best[i], 0);
            return bestRow(row, 0, group & ~(1 << p))[n] - others;
        }

        int ring(int n, int what) {
            String row = take(n, 8);
            if (row == null) return -1;
            Set<Integer> owners = new HashSet<>();
            for (int i = 0; i < n; i++) {
                int y = row.charAt(i);
                if (!now.year(y) || now.holder[y] != -2 || !owners.add(now.owner[y])) return -2;
            }
            if (outside(what, 0, n - 1) && what != 10) return -3;
            int[] gets = new int[n];
            TreeSet<Integer> there = new TreeSet<>();
            for (int i = 0; i < n; i++) there.add(i);
            while (!there.isEmpty()) {
                for (int i : there) {
                    int best = -1;
                    for (int j : there) {
                        int v = amount(now, 'v', (int) row.charAt(j), now.owner[row.charAt(i)], 0);
                        if (v > best) {
                            best = v;
                            gets[i] = j;
                        }
                    }
                }
                Set<Integer> gone = new HashSet<>();
                for (int i : there) {
                    Set<Integer> way = new HashSet<>();
                    int j = i;
                    while (way.add(j)) j = gets[j];
                    if (j == i) gone.add(i);
                }
                there.removeAll(gone);
            }
            if (what != 10) return gets[what];
            int n2 = 0;
            for (int i = 0; i < n; i++) if (gets[i] != i) n2++;
            return n2;
        }

        /** Per DATE every set of YEARS is tried. */
        long forged(int y, int what) {
            if (outside(what, 0, 2) || what == 2 && !now.year(y)) return -1;
            long fewest = 0, ways = 1, among = 0;
            for (int date = 0; date < 100; date++) {
                List<Integer> group = new ArrayList<>();
                for (int o : toldYears()) if (now.date[o] == date) group.add(o);
                int best = 99, count = 0;
                boolean with = false;
                for (int mask = 0; mask < 1 << group.size(); mask++) {
                    Set<Integer> marks = new HashSet<>();
                    for (int i = 0; i < group.size(); i++) if ((mask >> i & 1) == 0) marks.add(now.mark[group.get(i)]);
                    if (marks.size() > 1 || Integer.bitCount(mask) > best) continue;
                    if (Integer.bitCount(mask) < best) {
                        best = Integer.bitCount(mask);
                        count = 0;
                        with = false;
                    }
                    count++;
                    with |= group.contains(y) && (mask >> group.indexOf(y) & 1) == 1;
                }
                fewest += best;
                ways *= count;
                if (with) among = 1;
            }
            return what == 0 ? fewest : what == 1 ? ways : among;
        }

        int dealtIn(int n) {
            if (outside(n, 0, 16)) return -1;
            int c = 0;
            for (int y : toldYears()) if (now.deed[y] && now.hands.get(y).size() >= n) c++;
            return c;
        }

        int pass(State s, int n) {
            int falls = 0;
            for (int day = 0; day < n; day++) {
                for (int y = 0; y < 40; y++) {
                    if (!s.told[y] || s.holder[y] == -2) continue;
                    s.owed[y] = Math.min(99999, s.owed[y] + amount(s, 'i', y, s.owner[y], s.lent[y]));
                    if (s.lent[y] == 0 || s.owed[y] < 2 * s.lent[y]) continue;
                    falls++;
                    s.goes(y, s.holder[y]);
                }
                for (int p = 0; p < 8; p++) {
                    if (!s.is[p]) continue;
                    s.x = (25173 * s.x + 13849) % 65536;
                    if (s.x % 10 < amount(s, 'f', null, p, 0)) s.earn(p, amount(s, 'g', null, p, 0));
                }
                s.today++;
            }
            return falls;
        }

        int days(int n) {
            if (outside(n, 1, 100)) return -1;
            int falls = pass(now, n);
            fallen += falls;
            return falls;
        }

        int coins(State s) {
            int c = 0;
            for (int p = 0; p < 8; p++) if (s.is[p]) c += s.coins[p];
            return c;
        }

        int tried(int n, int what) {
            if (outside(n, 1, 100) || outside(what, 0, 1) && (outside(what, 10, 17) || !now.is[what - 10])) return -1;
            State s = now.copy();
            int falls = pass(s, n);
            return what == 0 ? falls : what == 1 ? coins(s) : s.owns(what - 10).size();
        }

        List<Integer> order(State s, List<Act> acts, List<Integer> row) {
            if (row.size() == acts.size()) return row;
            for (int i = 0; i < acts.size(); i++) {
                State next = s.copy();
                if (row.contains(i) || !act(next, acts.get(i))) continue;
                List<Integer> longer = new ArrayList<>(row);
                longer.add(i);
                List<Integer> all = order(next, acts, longer);
                if (all != null) return all;
            }
            return null;
        }

        int inOrder(int n, int what) {
            String s = take(n, 160);
            if (s == null) return -1;
            List<Act> acts;
            try {
                acts = new Reader(s).deals();
            } catch (Fault f) {
                return f.code;
            }
            if (acts.size() > 6 || outside(what, -1, acts.size() - 1)) return -3;
            List<Integer> row = order(now, acts, new ArrayList<>());
            if (what == -1) return row == null ? 0 : 1;
            return row == null ? -2 : row.get(what);
        }

        int common(int p, int q, int what) {
            if (!now.person(p) || !now.person(q) || p == q || outside(what, 0, 2)) return -1;
            if (what == 0) return now.knows(p) & now.knows(q);
            List<Integer> both = now.had(p);
            both.retainAll(now.had(q));
            if (what == 1) return both.size();
            return both.stream().mapToInt(y -> now.date[y]).min().orElse(-2);
        }

        /** All ways of growing length, the least row first. */
        List<Integer> way(List<Integer> row, int q, int steps) {
            int p = row.get(row.size() - 1);
            if (steps == 0) return p == q ? row : null;
            for (int r = 0; r < 8; r++) {
                if (row.contains(r)) continue;
                List<Integer> both = now.had(p);
                both.retainAll(now.had(r));
                if (both.isEmpty()) continue;
                List<Integer> longer = new ArrayList<>(row);
                longer.add(r);
                List<Integer> all = way(longer, q, steps - 1);
                if (all != null) return all;
            }
            return null;
        }

        int linked(int p, int q, int what) {
            if (!now.person(p) || !now.person(q)) return -3;
            for (int steps = 0; steps < 8; steps++) {
                List<Integer> row = way(List.of(p), q, steps);
                if (row == null) continue;
                return what == -1 ? steps : outside(what, 0, steps) ? -3 : row.get(what);
            }
            return -2;
        }

        int regime(int p, int from, int to) {
            if (!now.person(p) || outside(from, 0, 99) || outside(to, from, 99)) return -1;
            Set<Integer> dates = new HashSet<>();
            int skills = 0;
            for (int y : now.owns(p)) {
                if (outside(now.date[y], from, to)) continue;
                dates.add(now.date[y]);
                skills |= now.skills[y];
            }
            return 10 * dates.size() + Integer.bitCount(skills);
        }

        int seed(int s) {
            if (outside(s, 0, 65535)) return 0;
            now.x = s;
            return 1;
        }

        int keep() {
            kept = now.copy();
            return toldYears().size();
        }

        int undo() {
            if (kept == null) return 0;
            now = kept.copy();
            return 1;
        }

        int check(int n) {
            if (outside(n, 0, 40) || tape.length() < 4 * n) return -2;
            String s = tape;
            tape = "";
            for (int y = 0; y < n; y++) {
                long number = 0;
                for (int b = 0; b < 4; b++) number = 256 * number + s.charAt(4 * y + b);
                if (number != (now.told[y] ? now.owner[y] : 0)) return y;
            }
            return -1;
        }

        long count(int what) {
            int pawns = 0;
            for (int y : toldYears()) if (now.holder[y] != -2) pawns++;
            long[] answers = {told(), toldYears().size(), law.size(), tape.length(), now.x, now.today, pawns, coins(now), fallen};
            return outside(what, 0, 8) ? -1 : answers[what];
        }
    }
}
