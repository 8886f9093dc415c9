import java.math.BigInteger;
import java.util.ArrayList;
import java.util.Arrays;
import java.util.HashMap;
import java.util.List;
import java.util.Map;
import java.util.NoSuchElementException;
import java.util.Random;
import java.util.TreeMap;

/**
 * Random runs of calls on GiftRegister beside a second, slow reading of the document that shares no code with it.
 * Prints every call whose answer is not that of the slow reading; exit code 1 if there was one.
 */
public final class OracleTest {
    private static final int RUNS = 700;
    private static int wrong;
    private static final Map<String, Integer> SEEN = new TreeMap<>();

    public static void main(String[] args) {
        long first = args.length > 0 ? Long.parseLong(args[0]) : 1;
        long many = args.length > 1 ? Long.parseLong(args[1]) : RUNS;
        for (long seed = first; seed < first + many && wrong < 20; seed++) {
            new Run(seed).go();
        }
        if (args.length > 2) {
            SEEN.forEach((key, times) -> System.out.println(key + " " + times));
        }
        System.out.println(wrong == 0 ? "oracle: all answers agree" : "oracle: " + wrong + " answers differ");
        if (wrong != 0) {
            System.exit(1);
        }
    }

    // ---------------------------------------------------------------- the slow reading

    private static final class Fault extends RuntimeException {
        final int place;
        final int kind;

        Fault(int place, int kind) {
            this.place = place;
            this.kind = kind;
        }
    }

    private interface Context {
        long value(String atom, int within);
    }

    private interface Cond {
        boolean holds(Context context, int within);
    }

    private static final class Tell {
        int within = 30;
        Cond cond;
    }

    private static final class LawText {
        int known;
        int from;
        int rules;
        List<Tell> tells = new ArrayList<>();
        Cond sit;
        Cond may;
        Map<String, Integer> settings = new HashMap<>(Map.of("kin", 1, "year", 365, "old", 365, "link", 90, "quorum", 0));
    }

    private static final class Token {
        String text;
        int place;
        boolean isNumber;
        boolean isEnd;
        boolean isBad;
    }

    private static final class Reader {
        final List<Token> tokens = new ArrayList<>();
        int at;
        int ones;
        final LawText law = new LawText();

        Reader(String text) {
            int edge = Math.min(500, text.length());
            int i = 0;
            while (true) {
                while (i < edge && (text.charAt(i) == ' ' || text.charAt(i) == '\n')) {
                    i++;
                }
                Token token = new Token();
                if (i >= edge) {
                    token.place = edge;
                    token.isEnd = true;
                    token.text = "";
                    tokens.add(token);
                    break;
                }
                token.place = i;
                int j = i;
                while (j < text.length() && String.valueOf(text.charAt(j)).matches("[a-z0-9]")) {
                    j++;
                }
                if (j == i) {
                    j++;
                }
                token.text = text.substring(i, j);
                token.isNumber = token.text.matches("[0-9]{1,7}");
                token.isBad = !token.isNumber && !token.text.matches("[a-z]+|[;()<=>]");
                tokens.add(token);
                i = j;
            }
            while (!now().isEnd) {
                rule();
                law.rules++;
            }
            if (text.length() > 500) {
                throw new Fault(500, 1);
            }
        }

        Token now() {
            return tokens.get(at);
        }

        boolean isNow(String text) {
            return !now().isEnd && !now().isBad && now().text.equals(text);
        }

        void need(String text) {
            if (!isNow(text)) {
                throw new Fault(now().place, 1);
            }
            at++;
        }

        int number(int least, int most) {
            if (!now().isNumber) {
                throw new Fault(now().place, 1);
            }
            int number = Integer.parseInt(now().text);
            if (number < least || number > most) {
                throw new Fault(now().place, 2);
            }
            at++;
            return number;
        }

        final List<String> told = new ArrayList<>();

        void rule() {
            Token word = now();
            int[] range = null;
            switch (word.isBad ? "" : word.text) {
                case "tell":
                    if (law.tells.size() == 8) {
                        throw new Fault(word.place, 3);
                    }
                    at++;
                    Tell tell = new Tell();
                    if (isNow("within")) {
                        at++;
                        tell.within = number(0, 999);
                    }
                    need("if");
                    tell.cond = cond(1, true);
                    law.tells.add(tell);
                    need(";");
                    return;
                case "sit":
                case "may":
                    once(word);
                    need("if");
                    Cond cond = cond(1, false);
                    if (word.text.equals("sit")) {
                        law.sit = cond;
                    } else {
                        law.may = cond;
                    }
                    need(";");
                    return;
                case "kin":
                    range = new int[] {0, 4};
                    break;
                case "year":
                case "link":
                    range = new int[] {1, 999};
                    break;
                case "old":
                    range = new int[] {0, 3650};
                    break;
                case "quorum":
                    range = new int[] {0, 12};
                    break;
                default:
                    throw new Fault(word.place, 1);
            }
            once(word);
            law.settings.put(word.text, number(range[0], range[1]));
            need(";");
        }

        void once(Token word) {
            if (told.contains(word.text)) {
                throw new Fault(word.place, 3);
            }
            told.add(word.text);
            at++;
        }

        Cond cond(int depth, boolean tells) {
            Cond left = all(depth, tells);
            while (isNow("or")) {
                at++;
                Cond a = left;
                Cond b = all(depth, tells);
                left = (c, w) -> a.holds(c, w) || b.holds(c, w);
            }
            return left;
        }

        Cond all(int depth, boolean tells) {
            Cond left = one(depth, tells);
            while (isNow("and")) {
                at++;
                Cond a = left;
                Cond b = one(depth, tells);
                left = (c, w) -> a.holds(c, w) && b.holds(c, w);
            }
            return left;
        }

        static final List<String> PLAIN = List.of("gift", "meal", "journey", "share", "foreign", "kin", "back");
        static final List<String> AGAINST = List.of("least", "most", "sum", "count");

        Cond one(int depth, boolean tells) {
            Token first = now();
            String text = first.isBad || first.isEnd ? "" : first.text;
            boolean plain = tells ? PLAIN.contains(text) : List.of("kin", "post").contains(text);
            boolean against = tells ? AGAINST.contains(text) : List.of("part", "kinpart", "sum", "count").contains(text);
            if (!plain && !against && !text.equals("not") && !text.equals("(")) {
                throw new Fault(first.place, 1);
            }
            if (ones == 60 || depth == 21) {
                throw new Fault(first.place, 4);
            }
            ones++;
            at++;
            if (text.equals("not")) {
                Cond inner = one(depth + 1, tells);
                return (c, w) -> !inner.holds(c, w);
            }
            if (text.equals("(")) {
                Cond inner = cond(depth + 1, tells);
                need(")");
                return inner;
            }
            if (plain) {
                return (c, w) -> c.value(text, w) != 0;
            }
            String sign = now().text;
            if (now().isEnd || !List.of("<", "=", ">").contains(sign)) {
                throw new Fault(now().place, 1);
            }
            at++;
            int number = number(0, 9999999);
            return (c, w) -> {
                long value = c.value(text, w);
                return sign.equals("<") ? value < number : sign.equals("=") ? value == number : value > number;
            };
        }
    }

    private static final class Gift {
        int giver;
        int person;
        int kind;
        int day;
        boolean foreign;
        int known;
        int back = -1;
        int backKnown;
        int told = -1;
        List<int[]> worths = new ArrayList<>();

        int[] worth(int t) {
            int[] last = null;
            for (int[] worth : worths) {
                if (worth[0] <= t) {
                    last = worth;
                }
            }
            return last;
        }

        int backAsOf(int t) {
            return back >= 0 && backKnown <= t ? back : -1;
        }

        int toldAsOf(int t) {
            return told >= 0 && told <= t ? told : -1;
        }
    }

    private static final class Slow {
        int today;
        StringBuilder tape = new StringBuilder();
        List<Integer> out = new ArrayList<>();
        List<Integer> sorts = new ArrayList<>();
        List<String> names = new ArrayList<>();
        List<int[]> owns = new ArrayList<>();
        List<int[]> kin = new ArrayList<>();
        List<int[]> posts = new ArrayList<>();
        List<Gift> gifts = new ArrayList<>();
        int worths;
        List<LawText> laws = new ArrayList<>();
        int fault;
        List<Integer> members = new ArrayList<>();
        List<int[]> matters = new ArrayList<>();
        List<int[]> votes = new ArrayList<>();
        List<Object[]> entries = new ArrayList<>();

        boolean isDay(int d) {
            return d >= 0 && d <= 9999;
        }

        boolean isParty(int x) {
            return x >= 0 && x < sorts.size();
        }

        boolean isPerson(int x) {
            return isParty(x) && sorts.get(x) == 0;
        }

        long feed(int... numbers) {
            if (tape.length() + 20 > 540) {
                return -1;
            }
            for (int number : numbers) {
                for (byte b : java.nio.ByteBuffer.allocate(4).putInt(number).array()) {
                    tape.append((char) (b & 255));
                }
            }
            return tape.length();
        }

        long end(int n) {
            if (n < 0 || n > tape.length()) {
                return 0;
            }
            tape.setLength(n);
            return 1;
        }

        long next(int n) {
            if (n < 0 || n > 9999 || today + n > 9999) {
                return -1;
            }
            return today += n;
        }

        String take() {
            String text = tape.toString();
            tape.setLength(0);
            return text;
        }

        long party(int sort) {
            String name = take();
            if (sorts.size() == 60 || sort < 0 || sort > 2 || !name.matches("[a-z]{1,12}") || name.contains("\n")) {
                return -1;
            }
            sorts.add(sort);
            names.add(name);
            return sorts.size() - 1;
        }

        static boolean lasts(int[] row, int d) {
            return row[3] <= d && (row[4] == -1 || d < row[4]);
        }

        long owns(int owner, int f, int part, int from, int until) {
            if (!isParty(owner) || !isParty(f) || isPerson(f) || owner == f || part < 1 || part > 10000) {
                return -2;
            }
            if (!isDay(from) || until != -1 && (!isDay(until) || until <= from)) {
                return -3;
            }
            int[] row = {owner, f, part, from, until, today};
            int[] sums = new int[10001];
            for (int d = from; d < (until == -1 ? 10000 : until); d++) {
                sums[d] = part;
            }
            for (int[] other : owns) {
                if (other[1] == f) {
                    for (int d = other[3]; d < (other[4] == -1 ? 10000 : other[4]); d++) {
                        sums[d] += other[2];
                    }
                }
            }
            for (int sum : sums) {
                if (sum > 10000) {
                    return -4;
                }
            }
            if (owns.size() == 200) {
                return -5;
            }
            owns.add(row);
            return owns.size() - 1;
        }

        long kin(int a, int b, int from, int until) {
            if (!isPerson(a) || !isPerson(b) || a == b) {
                return -2;
            }
            if (!isDay(from) || until != -1 && (!isDay(until) || until <= from)) {
                return -3;
            }
            if (kin.size() == 100) {
                return -5;
            }
            kin.add(new int[] {a, b, 0, from, until, today});
            return kin.size() - 1;
        }

        long post(int a, int b, int from, int until) {
            if (!isPerson(a) || !isParty(b) || isPerson(b)) {
                return -2;
            }
            if (!isDay(from) || until != -1 && (!isDay(until) || until < from)) {
                return -3;
            }
            if (posts.size() == 60) {
                return -5;
            }
            posts.add(new int[] {a, b, 0, from, until, today});
            return posts.size() - 1;
        }

        long gift(int giver, int person, int kind, int day, boolean foreign, int least, int most) {
            if (!isParty(giver) || !isPerson(person) || giver == person) {
                return -2;
            }
            if (kind < 0 || kind > 3 || !isDay(day)) {
                return -3;
            }
            if (least < 0 || least > most || most > 1000000) {
                return -4;
            }
            if (gifts.size() == 120) {
                return -5;
            }
            Gift gift = new Gift();
            gift.giver = giver;
            gift.person = person;
            gift.kind = kind;
            gift.day = day;
            gift.foreign = foreign;
            gift.known = today;
            gift.worths.add(new int[] {today, least, most});
            gifts.add(gift);
            return gifts.size() - 1;
        }

        boolean isGift(int g) {
            return g >= 0 && g < gifts.size();
        }

        long worth(int g, int least, int most) {
            if (!isGift(g) || least < 0 || least > most || most > 1000000 || worths == 200) {
                return 0;
            }
            worths++;
            gifts.get(g).worths.add(new int[] {today, least, most});
            return 1;
        }

        long back(int g, int day) {
            if (!isGift(g) || day < gifts.get(g).day || day > 9999 || gifts.get(g).back >= 0) {
                return 0;
            }
            gifts.get(g).back = day;
            gifts.get(g).backKnown = today;
            return 1;
        }

        long tell(int g) {
            if (!isGift(g) || gifts.get(g).told >= 0) {
                return 0;
            }
            gifts.get(g).told = today;
            return 1;
        }

        long law(int from) {
            String text = take();
            if (laws.size() == 6 || !isDay(from)) {
                return -1000;
            }
            try {
                LawText law = new Reader(text).law;
                law.known = today;
                law.from = from;
                laws.add(law);
                fault = 0;
                return law.rules;
            } catch (Fault found) {
                fault = found.kind;
                return -1 - found.place;
            }
        }

        LawText lawFor(int d, int t) {
            LawText best = null;
            for (LawText law : laws) {
                if (law.known <= t && law.from <= d && (best == null || law.from >= best.from)) {
                    best = law;
                }
            }
            return best == null ? new LawText() : best;
        }

        int direct(int x, int f, int d, int t) {
            int part = 0;
            for (int[] row : owns) {
                if (row[0] == x && row[1] == f && row[5] <= t && lasts(row, d)) {
                    part += row[2];
                }
            }
            return part;
        }

        int[][] matrix(int d, int t) {
            int n = sorts.size();
            int[][] parts = new int[n][n];
            for (int[] row : owns) {
                if (row[5] <= t && lasts(row, d)) {
                    parts[row[0]][row[1]] += row[2];
                }
            }
            return parts;
        }

        void chains(int[][] parts, List<Integer> path, int f, List<List<Integer>> found) {
            int last = path.get(path.size() - 1);
            if (path.size() > 1 && last == f) {
                found.add(new ArrayList<>(path));
                return;
            }
            if (path.size() == 5) {
                return;
            }
            for (int y = parts.length - 1; y >= 0; y--) {
                if (parts[last][y] > 0 && !path.contains(y)) {
                    path.add(y);
                    chains(parts, path, f, found);
                    path.remove(path.size() - 1);
                }
            }
        }

        BigInteger product(int[][] parts, List<Integer> path) {
            BigInteger product = BigInteger.TEN.pow(16);
            for (int i = 1; i < path.size(); i++) {
                product = product.multiply(BigInteger.valueOf(parts[path.get(i - 1)][path.get(i)])).divide(BigInteger.valueOf(10000));
            }
            return product;
        }

        List<List<Integer>> allChains(int[][] parts, int x, int f) {
            List<List<Integer>> found = new ArrayList<>();
            List<Integer> path = new ArrayList<>();
            path.add(x);
            if (x != f) {
                chains(parts, path, f, found);
            }
            return found;
        }

        long part(int x, int f, int d, int t) {
            if (!isParty(x) || !isParty(f) || !isDay(d)) {
                return -1;
            }
            return partOn(x, f, d, t);
        }

        long partOn(int x, int f, int d, int t) {
            int[][] parts = matrix(d, t);
            BigInteger sum = BigInteger.ZERO;
            for (List<Integer> path : allChains(parts, x, f)) {
                sum = sum.add(product(parts, path));
            }
            return sum.longValueExact();
        }

        long chain(int x, int f, int d, int t) {
            if (!isParty(x) || !isParty(f) || !isDay(d)) {
                return -1;
            }
            int[][] parts = matrix(d, t);
            List<List<Integer>> all = allChains(parts, x, f);
            if (all.isEmpty()) {
                return 0;
            }
            all.sort((p, q) -> {
                int byProduct = product(parts, q).compareTo(product(parts, p));
                if (byProduct != 0) {
                    return byProduct;
                }
                if (p.size() != q.size()) {
                    return p.size() - q.size();
                }
                for (int i = 0; i < p.size(); i++) {
                    if (!p.get(i).equals(q.get(i))) {
                        return p.get(i) - q.get(i);
                    }
                }
                return 0;
            });
            out = all.get(0);
            return out.size();
        }

        boolean[] controls(int[][] parts, int x) {
            int n = parts.length;
            boolean[] has = new boolean[n];
            boolean changed = true;
            while (changed) {
                changed = false;
                for (int f = 0; f < n; f++) {
                    int sum = 0;
                    for (int y = 0; y < n; y++) {
                        if (y != f && (y == x || has[y])) {
                            sum += parts[y][f];
                        }
                    }
                    if (!has[f] && sum > 5000) {
                        has[f] = true;
                        changed = true;
                    }
                }
            }
            return has;
        }

        final Map<String, int[]> headCache = new HashMap<>();

        int[] heads(int d, int t) {
            String key = d + "," + t + "," + owns.size() + "," + sorts.size();
            int[] known = headCache.get(key);
            if (known != null) {
                return known;
            }
            int[][] parts = matrix(d, t);
            int n = parts.length;
            boolean[][] control = new boolean[n][];
            for (int x = 0; x < n; x++) {
                control[x] = controls(parts, x);
            }
            int[] heads = new int[n];
            for (int x = 0; x < n; x++) {
                heads[x] = -1;
                int least = x;
                for (int c = n - 1; c >= 0; c--) {
                    if (control[c][x]) {
                        least = Math.min(least, c);
                        boolean free = true;
                        for (int y = 0; y < n; y++) {
                            free &= y == c || !control[y][c];
                        }
                        if (free) {
                            heads[x] = c;
                        }
                    }
                }
                if (heads[x] == -1) {
                    heads[x] = least;
                }
            }
            headCache.put(key, heads);
            return heads;
        }

        long head(int x, int d, int t) {
            return isParty(x) && isDay(d) ? heads(d, t)[x] : -1;
        }

        boolean oneGroup(int x, int y, int d, int t) {
            return heads(d, t)[x] == heads(d, t)[y];
        }

        final Map<String, int[][]> degreeCache = new HashMap<>();

        int deg(int a, int b, int d, int t) {
            String key = d + "," + t + "," + kin.size() + "," + sorts.size();
            int[][] known = degreeCache.get(key);
            if (known == null) {
                int n = sorts.size();
                known = new int[n][n];
                for (int[] row : known) {
                    Arrays.fill(row, 99);
                }
                for (int x = 0; x < n; x++) {
                    known[x][x] = 0;
                }
                for (int[] row : kin) {
                    if (row[5] <= t && lasts(row, d)) {
                        known[row[0]][row[1]] = 1;
                        known[row[1]][row[0]] = 1;
                    }
                }
                for (int k = 0; k < n; k++) {
                    for (int x = 0; x < n; x++) {
                        for (int y = 0; y < n; y++) {
                            known[x][y] = Math.min(known[x][y], known[x][k] + known[k][y]);
                        }
                    }
                }
                degreeCache.put(key, known);
            }
            return Math.min(5, known[a][b]);
        }

        long degree(int a, int b, int d, int t) {
            return isPerson(a) && isPerson(b) && isDay(d) ? deg(a, b, d, t) : -1;
        }

        int[] sumAndCount(int giver, int p, int d, int t) {
            LawText law = lawFor(d, t);
            int[] answer = new int[2];
            for (Gift gift : gifts) {
                if (gift.known > t || gift.day < d - law.settings.get("year") + 1 || gift.day > d) {
                    continue;
                }
                if (gift.person != p && deg(gift.person, p, d, t) > law.settings.get("kin")) {
                    continue;
                }
                if (!oneGroup(gift.giver, giver, d, t)) {
                    continue;
                }
                int back = gift.backAsOf(t);
                if (back >= 0 && back <= d) {
                    continue;
                }
                answer[0] += gift.worth(t)[1];
                answer[1]++;
            }
            return answer;
        }

        long judged(int g, int t, int what) {
            if (!isGift(g) || gifts.get(g).known > t || what < 0 || what > 8) {
                throw new NoSuchElementException();
            }
            Gift gift = gifts.get(g);
            int d = gift.day;
            LawText law = lawFor(d, t);
            int[] both = sumAndCount(gift.giver, gift.person, d, t);
            Context context = (atom, within) -> {
                switch (atom) {
                    case "gift":
                        return gift.kind == 0 ? 1 : 0;
                    case "meal":
                        return gift.kind == 1 ? 1 : 0;
                    case "journey":
                        return gift.kind == 2 ? 1 : 0;
                    case "share":
                        return gift.kind == 3 ? 1 : 0;
                    case "foreign":
                        return gift.foreign ? 1 : 0;
                    case "kin":
                        return isPerson(gift.giver) && deg(gift.giver, gift.person, d, t) <= law.settings.get("kin") ? 1 : 0;
                    case "back":
                        return gift.backAsOf(t) >= 0 && gift.backAsOf(t) <= d + within ? 1 : 0;
                    case "least":
                        return gift.worth(t)[1];
                    case "most":
                        return gift.worth(t)[2];
                    case "sum":
                        return both[0];
                    default:
                        return both[1];
                }
            };
            int rule = -1;
            int due = -1;
            for (int i = law.tells.size() - 1; i >= 0; i--) {
                Tell tell = law.tells.get(i);
                if (tell.cond.holds(context, tell.within)) {
                    rule = i;
                    due = d + tell.within;
                }
            }
            int told = gift.toldAsOf(t);
            int state = rule < 0 ? 0 : told >= 0 ? told <= due ? 1 : 2 : t <= due ? 3 : 4;
            return new long[] {state, rule, due, gift.worth(t)[1], gift.worth(t)[2], gift.backAsOf(t), told, both[0], both[1]}[what];
        }

        long member(int person) {
            if (!isPerson(person) || members.contains(person) || members.size() == 12) {
                return -1;
            }
            members.add(person);
            return members.size();
        }

        long matter(int f, int day) {
            if (matters.size() == 60 || !isParty(f) || !isDay(day)) {
                return -1;
            }
            matters.add(new int[] {f, day});
            return matters.size() - 1;
        }

        boolean isMatter(int m) {
            return m >= 0 && m < matters.size();
        }

        long sits(int m, int p, int t) {
            if (!isMatter(m) || !isPerson(p)) {
                return -1;
            }
            int f = matters.get(m)[0];
            int d = matters.get(m)[1];
            LawText law = lawFor(d, t);
            int limit = law.settings.get("kin");
            Context context = (atom, within) -> {
                switch (atom) {
                    case "kin":
                        int head = heads(d, t)[f];
                        boolean near = isPerson(f) && deg(p, f, d, t) <= limit;
                        return near || isPerson(head) && deg(p, head, d, t) <= limit ? 1 : 0;
                    case "post":
                        for (int[] row : posts) {
                            boolean now = row[3] <= d && (row[4] == -1 || row[4] >= d);
                            boolean lately = row[4] != -1 && row[4] < d && d - row[4] <= law.settings.get("old");
                            if (row[0] == p && row[5] <= t && (now || lately) && oneGroup(row[1], f, d, t)) {
                                return 1;
                            }
                        }
                        return 0;
                    case "part":
                        return p == f ? 10000 : partOn(p, f, d, t) / 1000000000000L;
                    case "kinpart":
                        long greatest = 0;
                        for (int q = 0; q < sorts.size(); q++) {
                            if (q != p && isPerson(q) && deg(p, q, d, t) <= limit) {
                                greatest = Math.max(greatest, q == f ? 10000 : partOn(q, f, d, t) / 1000000000000L);
                            }
                        }
                        return greatest;
                    case "sum":
                        return sumAndCount(f, p, d, t)[0];
                    default:
                        return sumAndCount(f, p, d, t)[1];
                }
            };
            if (law.sit != null && law.sit.holds(context, 0)) {
                return 2;
            }
            return law.may != null && law.may.holds(context, 0) ? 1 : 0;
        }

        long quorum(int m, int t) {
            if (!isMatter(m)) {
                return -100;
            }
            int left = 0;
            for (int member : members) {
                left += sits(m, member, t) == 2 ? 0 : 1;
            }
            return left - lawFor(matters.get(m)[1], t).settings.get("quorum");
        }

        long entry(int giver, int day, int worth) {
            String name = take();
            if (entries.size() == 100 || !isParty(giver) || !name.matches("[a-z]{1,12}") || name.contains("\n")
                    || !isDay(day) || worth < 0 || worth > 1000000) {
                return -1;
            }
            entries.add(new Object[] {giver, day, worth, name, today});
            return entries.size() - 1;
        }

        boolean fits(Object[] entry, Gift gift, int t) {
            int day = (Integer) entry[1];
            int worth = (Integer) entry[2];
            return gift.known <= t && gift.toldAsOf(t) >= 0 && oneGroup((Integer) entry[0], gift.giver, day, t)
                    && names.get(gift.person).equals(entry[3]) && Math.abs(day - gift.day) <= 3
                    && gift.worth(t)[1] <= worth && worth <= gift.worth(t)[2];
        }

        /** The most that can be joined, if the entries ahead of the first keep what they have. */
        int most(boolean[][] fits, boolean[] taken, int first) {
            int[] holder = new int[gifts.size()];
            Arrays.fill(holder, -1);
            int most = 0;
            for (int e = first; e < fits.length; e++) {
                if (kuhn(fits, taken.clone(), holder, e)) {
                    most++;
                }
            }
            return most;
        }

        boolean kuhn(boolean[][] fits, boolean[] barred, int[] holder, int e) {
            for (int g = 0; g < holder.length; g++) {
                if (fits[e][g] && !barred[g]) {
                    barred[g] = true;
                    if (holder[g] < 0 || kuhn(fits, barred, holder, holder[g])) {
                        holder[g] = e;
                        return true;
                    }
                }
            }
            return false;
        }

        int[] joining(int t) {
            boolean[][] fits = new boolean[entries.size()][gifts.size()];
            for (int e = 0; e < fits.length; e++) {
                for (int g = 0; g < gifts.size(); g++) {
                    fits[e][g] = (Integer) entries.get(e)[4] <= t && fits(entries.get(e), gifts.get(g), t);
                }
            }
            int[] answer = new int[fits.length];
            boolean[] taken = new boolean[gifts.size()];
            int left = most(fits, taken, 0);
            for (int e = 0; e < fits.length; e++) {
                answer[e] = -1;
                for (int g = 0; g < gifts.size() && answer[e] < 0; g++) {
                    if (fits[e][g] && !taken[g]) {
                        taken[g] = true;
                        if (1 + most(fits, taken, e + 1) == left) {
                            answer[e] = g;
                            left--;
                        } else {
                            taken[g] = false;
                        }
                    }
                }
            }
            return answer;
        }

        long joined(int t) {
            int joined = 0;
            for (int g : joining(t)) {
                joined += g >= 0 ? 1 : 0;
            }
            return joined;
        }

        long entered(int e, int t, int what) {
            if (e < 0 || e >= entries.size() || (Integer) entries.get(e)[4] > t || what < 0 || what > 2) {
                throw new NoSuchElementException();
            }
            int bearers = 0;
            for (int x = 0; x < sorts.size(); x++) {
                bearers += isPerson(x) && names.get(x).equals(entries.get(e)[3]) ? 1 : 0;
            }
            return what == 0 ? joining(t)[e] : what == 1 ? bearers == 1 ? 0 : 1 : bearers;
        }

        long vote(int m, int person, boolean isFor) {
            if (!isMatter(m) || !members.contains(person) || votes.size() == 200) {
                return -1;
            }
            for (int[] vote : votes) {
                if (vote[0] == m && vote[1] == person) {
                    return -1;
                }
            }
            votes.add(new int[] {m, person, isFor ? 1 : 0, today});
            return votes.size() - 1;
        }

        boolean warm(int[] vote, int t) {
            int f = matters.get(vote[0])[0];
            int d = matters.get(vote[0])[1];
            int link = lawFor(d, t).settings.get("link");
            for (Gift gift : gifts) {
                boolean kept = gift.backAsOf(t) < 0 || gift.backAsOf(t) >= d;
                if (gift.known <= t && gift.person == vote[1] && kept && gift.day <= d && gift.day >= d - link + 1
                        && oneGroup(gift.giver, f, d, t)) {
                    return true;
                }
            }
            return false;
        }

        long links(int t, int what) {
            if (what < 0 || what > 3) {
                return -1;
            }
            int[] tallies = new int[4];
            for (int[] vote : votes) {
                if (vote[3] <= t) {
                    boolean warm = warm(vote, t);
                    tallies[0]++;
                    tallies[1] += vote[2];
                    tallies[2] += warm ? 1 : 0;
                    tallies[3] += warm && vote[2] == 1 ? 1 : 0;
                }
            }
            return tallies[what];
        }

        static BigInteger choose(int n, int k) {
            if (k < 0 || k > n) {
                return BigInteger.ZERO;
            }
            BigInteger up = BigInteger.ONE;
            BigInteger down = BigInteger.ONE;
            for (int i = 0; i < k; i++) {
                up = up.multiply(BigInteger.valueOf(n - i));
                down = down.multiply(BigInteger.valueOf(i + 1));
            }
            return up.divide(down);
        }

        long chance(int t, int what) {
            int all = (int) links(t, 0);
            if (all > 60 || what < 0 || what > 1) {
                throw new NoSuchElementException();
            }
            int drawn = (int) links(t, 1);
            int warm = (int) links(t, 2);
            int least = (int) links(t, 3);
            BigInteger up = BigInteger.ZERO;
            for (int i = least; i <= warm; i++) {
                up = up.add(choose(warm, i).multiply(choose(all - warm, drawn - i)));
            }
            BigInteger down = choose(all, drawn);
            BigInteger common = up.gcd(down);
            return (what == 0 ? up : down).divide(common).longValueExact();
        }

        long asked(int person, int t, int what) {
            if (!isPerson(person) || what < 0 || what > 5) {
                return -1;
            }
            long[] answers = new long[6];
            for (int g = 0; g < gifts.size(); g++) {
                Gift gift = gifts.get(g);
                if (gift.person == person && gift.known <= t) {
                    answers[0]++;
                    if (gift.toldAsOf(t) >= 0) {
                        answers[1]++;
                        answers[4] += gift.worth(t)[1];
                    }
                    long state = judged(g, t, 0);
                    answers[2] += state == 2 ? 1 : 0;
                    answers[3] += state == 4 ? 1 : 0;
                }
            }
            for (int f = 0; f < sorts.size() && what == 5; f++) {
                answers[5] = Math.max(answers[5], partOn(person, f, t, t) / 1000000000000L);
            }
            return answers[what];
        }

        long count(int what) {
            int[] counts = {today, sorts.size(), owns.size(), kin.size(), posts.size(), gifts.size(), laws.size(),
                matters.size(), entries.size(), votes.size(), members.size(), tape.length(), out.size()};
            return what < 0 || what > 12 ? -1 : counts[what];
        }

        long octet(int k) {
            if (k < 0 || k >= out.size()) {
                throw new NoSuchElementException();
            }
            return out.get(k);
        }
    }

    // ---------------------------------------------------------------- random runs

    private interface Call {
        long answer();
    }

    private static final class Run {
        static final long THROWN = Long.MIN_VALUE;
        final long seed;
        final Random random;
        final GiftRegister fast = new GiftRegister();
        final Slow slow = new Slow();
        final int span;
        final int people;
        final int bodies;
        // Runs of few days, names and worths, so that entries fit many gifts; runs whose sorts come mixed.
        final boolean dense;
        final boolean mixed;
        int calls;

        Run(long seed) {
            this.seed = seed;
            random = new Random(seed);
            span = new int[] {20, 60, 400, 9999}[random.nextInt(4)];
            people = 2 + random.nextInt(random.nextInt(3) == 0 ? 25 : 8);
            bodies = 1 + random.nextInt(random.nextInt(3) == 0 ? 20 : 8);
            dense = random.nextInt(3) == 0;
            mixed = random.nextInt(4) == 0;
        }

        long guarded(Call call) {
            try {
                return call.answer();
            } catch (NoSuchElementException e) {
                return THROWN;
            }
        }

        void check(String name, Call mine, Call due) {
            calls++;
            long a = guarded(mine);
            long b = guarded(due);
            String kind = name.substring(0, name.indexOf('('));
            SEEN.merge(kind + (b == THROWN ? " throws" : b < 0 ? " negative" : b == 0 ? " zero" : b == 1 ? " one" : " more"), 1, Integer::sum);
            if (a != b) {
                wrong++;
                System.out.println("seed " + seed + " call " + calls + ": " + name + " answered " + a + ", due is " + b);
            }
        }

        static final int[] WILD = {Integer.MIN_VALUE, -1000, -2, -1, 60, 61, 9999, 10000, 1000001, Integer.MAX_VALUE};

        int wild() {
            return WILD[random.nextInt(WILD.length)];
        }

        int in(int least, int most) {
            return least + random.nextInt(most - least + 1);
        }

        int day() {
            int odd = random.nextInt(60);
            return odd == 0 ? wild() : odd == 1 ? 10000 : odd == 2 ? 9999 : odd == 3 ? 0 : random.nextInt(span + 1);
        }

        int time() {
            int odd = random.nextInt(30);
            return odd == 0 ? -1 : odd == 1 ? in(0, 10050) : odd == 2 ? Integer.MAX_VALUE : odd == 3 ? Integer.MIN_VALUE
                : odd < 10 ? in(0, slow.today) : odd < 20 ? slow.today : slow.today + in(0, span);
        }

        int any() {
            return random.nextInt(200) == 0 ? wild() : random.nextInt(50) == 0 ? in(-2, 62) : random.nextInt(Math.max(1, slow.sorts.size()));
        }

        int person() {
            return random.nextInt(20) == 0 ? any() : random.nextInt(Math.max(1, Math.min(people, slow.sorts.size())));
        }

        int body() {
            return random.nextInt(20) == 0 || slow.sorts.size() <= people ? any() : in(people, slow.sorts.size() - 1);
        }

        int until(int from) {
            return random.nextInt(3) == 0 ? -1 : random.nextInt(10) == 0 ? day() : from + random.nextInt(span + 2);
        }

        void put(String text) {
            int n = text.length();
            for (int i = 0; i < n; i += 20) {
                int[] words = new int[5];
                for (int k = 0; k < 20 && i + k < n; k++) {
                    words[k / 4] |= text.charAt(i + k) << 24 - k % 4 * 8;
                }
                check("feed()", () -> fast.feed(words[0], words[1], words[2], words[3], words[4]), () -> slow.feed(words));
            }
            int length = Math.min(n, slow.tape.length());
            check("end(" + length + ")", () -> fast.end(length) ? 1 : 0, () -> slow.end(length));
        }

        String name() {
            String[] names = {"a", "bo", "cai", "dora", "abcdefghijkl"};
            int odd = random.nextInt(40);
            return odd == 0 ? "" : odd == 1 ? "abcdefghijklm" : odd == 2 ? "A" : odd == 3 ? "a " : names[random.nextInt(names.length)];
        }

        void addParty(int sort) {
            put(name());
            check("party(" + sort + ")", () -> fast.party(sort), () -> slow.party(sort));
        }

        String atom(boolean tells) {
            String[] plain = tells ? new String[] {"gift", "meal", "journey", "share", "foreign", "kin", "back"} : new String[] {"kin", "post"};
            String[] against = tells ? new String[] {"least", "most", "sum", "count"} : new String[] {"part", "kinpart", "sum", "count"};
            if (random.nextBoolean()) {
                return plain[random.nextInt(plain.length)];
            }
            String word = against[random.nextInt(against.length)];
            int number = word.equals("count") ? in(0, 6) : word.endsWith("part") ? new int[] {0, 1000, 4999, 5000, 9999, in(0, 10000)}[random.nextInt(6)]
                : in(0, 1500);
            String gap = random.nextInt(4) == 0 ? "\n" : "";
            return word + gap + "<=>".charAt(random.nextInt(3)) + gap + number;
        }

        String one(boolean tells, int deep) {
            int pick = random.nextInt(10);
            if (deep > 0 && pick < 2) {
                return "not " + one(tells, deep - 1);
            }
            if (deep > 0 && pick < 4) {
                return "(" + cond(tells, deep - 1) + ")";
            }
            return atom(tells);
        }

        String cond(boolean tells, int deep) {
            StringBuilder text = new StringBuilder(one(tells, deep));
            while (random.nextInt(5) < 2) {
                text.append(random.nextBoolean() ? " and " : " or ").append(one(tells, deep));
            }
            return text.toString();
        }

        String text() {
            StringBuilder text = new StringBuilder();
            if (random.nextInt(30) == 0) {
                int many = in(18, 22);
                String opening = random.nextBoolean() ? "not " : "(";
                text.append("tell if ").append(opening.repeat(many)).append("gift").append(opening.equals("(") ? ")".repeat(many) : "").append(";");
            }
            if (random.nextInt(30) == 0) {
                text.append("may if kin").append(" or kin".repeat(in(57, 61))).append(";");
            }
            List<String> rules = new ArrayList<>();
            for (int tells = random.nextInt(12) == 0 ? in(7, 9) : random.nextInt(4); tells > 0; tells--) {
                rules.add("tell " + (random.nextBoolean() ? "within " + (random.nextInt(20) == 0 ? in(990, 1010) : in(0, 40)) + " " : "")
                    + "if " + cond(true, random.nextInt(4)) + ";");
            }
            if (random.nextInt(3) > 0) {
                rules.add("sit if " + cond(false, random.nextInt(4)) + ";");
            }
            if (random.nextInt(3) > 0) {
                rules.add("may if " + cond(false, random.nextInt(4)) + ";");
            }
            String[] settings = {"kin", "year", "old", "link", "quorum"};
            int[][] usual = {{0, 5}, {0, 1001}, {0, 3652}, {0, 1001}, {0, 13}};
            for (int i = 0; i < 5; i++) {
                if (random.nextInt(3) == 0) {
                    int most = i == 0 || random.nextInt(20) == 0 ? usual[i][1] : Math.min(usual[i][1], 30);
                    rules.add(settings[i] + " " + (random.nextInt(30) == 0 ? in(0, 99999999) : in(random.nextInt(25) == 0 ? 0 : 1, most - (random.nextInt(8) == 0 ? 0 : 1))) + ";");
                }
            }
            java.util.Collections.shuffle(rules, random);
            if (random.nextInt(20) == 0 && !rules.isEmpty()) {
                rules.add(rules.get(0));
            }
            rules.forEach(rule -> text.append(rule).append(random.nextInt(3) == 0 ? "\n" : ""));
            for (int changes = random.nextInt(3) == 0 ? in(1, 2) : 0; changes > 0 && text.length() > 0; changes--) {
                int at = random.nextInt(text.length());
                int kind = random.nextInt(4);
                if (kind == 0) {
                    text.deleteCharAt(at);
                } else if (kind == 1) {
                    text.insert(at, "abtk019;()<=> \n\t!A".charAt(random.nextInt(18)));
                } else if (kind == 2) {
                    text.setCharAt(at, "abtk019;()<=> \nz~\u00ff".charAt(random.nextInt(18)));
                } else {
                    text.setLength(at);
                }
            }
            if (random.nextInt(15) == 0 && text.length() < 500) {
                text.append(" ".repeat(Math.max(0, 500 - text.length() - in(0, 12)))).append(random.nextBoolean() ? "kin 1;" : random.nextBoolean() ? "   " : "quorumquorum 1;");
            }
            return text.length() > 540 ? text.substring(0, 540) : text.toString();
        }

        void addLaw() {
            put(text());
            int from = random.nextInt(3) == 0 ? day() : 0;
            check("law(" + from + ")", () -> fast.law(from), () -> slow.law(from));
            check("fault()", () -> fast.fault(), () -> slow.fault);
        }

        void go() {
            for (int i = 0; i < people + bodies; i++) {
                addParty(mixed ? in(0, 2) : i < people ? 0 : in(1, 2));
            }
            if (dense) {
                list();
            }
            int early = in(0, 200);
            while (calls < early) {
                build();
            }
            if (random.nextBoolean()) {
                addLaw();
            }
            while (calls < 500) {
                if (random.nextInt(3) == 0) {
                    ask();
                } else {
                    build();
                }
            }
        }

        /** Gifts and entries that fit each other in many ways. */
        void list() {
            int names = in(1, 2);
            int givers = in(1, 2);
            for (int i = in(2, 60); i > 0; i--) {
                int giver = slow.sorts.size() - 1 - random.nextInt(givers);
                int to = random.nextInt(names);
                int least = in(0, 9);
                int most = least + in(0, 4);
                int day = in(0, 5);
                check("gift(" + giver + ", " + to + ", 0, " + day + ", false, " + least + ", " + most + ")",
                    () -> fast.gift(giver, to, 0, day, false, least, most), () -> slow.gift(giver, to, 0, day, false, least, most));
                int g = slow.gifts.size() - 1;
                if (random.nextInt(8) > 0) {
                    check("tell(" + g + ")", () -> fast.tell(g) ? 1 : 0, () -> slow.tell(g));
                }
            }
            for (int i = in(2, 40); i > 0; i--) {
                int to = random.nextInt(names);
                if (slow.names.size() > to) {
                    put(slow.names.get(to));
                }
                int giver = slow.sorts.size() - 1 - random.nextInt(givers);
                int day = in(0, 5);
                int worth = in(0, 12);
                check("entry(" + giver + ", " + day + ", " + worth + ")", () -> fast.entry(giver, day, worth), () -> slow.entry(giver, day, worth));
            }
            check("joined(0)", () -> fast.joined(0), () -> slow.joined(0));
            for (int i = 0; i < slow.entries.size(); i++) {
                int e = i;
                check("entered(" + e + ", 0, 0)", () -> fast.entered(e, 0, 0), () -> slow.entered(e, 0, 0));
            }
        }

        void build() {
            int pick = random.nextInt(100);
            if (pick < 2) {
                addParty(in(-1, 3));
            } else if (pick < 18) {
                int owner = random.nextBoolean() ? person() : any();
                int f = body();
                int part = random.nextInt(20) == 0 ? in(-1, 10001) : new int[] {in(1, 3000), in(4000, 6000), 5000, 5001, 1000}[random.nextInt(5)];
                int from = random.nextInt(3) == 0 ? 0 : day();
                int until = until(from);
                check("owns(" + owner + ", " + f + ", " + part + ", " + from + ", " + until + ")",
                    () -> fast.owns(owner, f, part, from, until), () -> slow.owns(owner, f, part, from, until));
            } else if (pick < 26) {
                int a = person();
                int b = person();
                int from = random.nextInt(3) == 0 ? 0 : day();
                int until = until(from);
                check("kin(" + a + ", " + b + ", " + from + ", " + until + ")", () -> fast.kin(a, b, from, until), () -> slow.kin(a, b, from, until));
            } else if (pick < 32) {
                int a = person();
                int b = body();
                int from = day();
                int until = until(from);
                check("post(" + a + ", " + b + ", " + from + ", " + until + ")", () -> fast.post(a, b, from, until), () -> slow.post(a, b, from, until));
            } else if (pick < 52) {
                int giver = any();
                int to = person();
                int kind = random.nextInt(30) == 0 ? in(-1, 4) : in(0, 3);
                int day = day();
                boolean foreign = random.nextBoolean();
                int least = random.nextInt(30) == 0 ? in(-1, 1000000) : in(0, 500);
                int most = random.nextInt(30) == 0 ? in(0, 1000001) : least + in(0, 500);
                check("gift(" + giver + ", " + to + ", " + kind + ", " + day + ", " + foreign + ", " + least + ", " + most + ")",
                    () -> fast.gift(giver, to, kind, day, foreign, least, most), () -> slow.gift(giver, to, kind, day, foreign, least, most));
            } else if (pick < 57) {
                int g = giftNumber();
                int least = in(random.nextInt(9) == 0 ? -1 : 0, 500);
                int most = random.nextInt(30) == 0 ? in(0, 1000001) : least + in(0, 500);
                check("worth(" + g + ", " + least + ", " + most + ")", () -> fast.worth(g, least, most) ? 1 : 0, () -> slow.worth(g, least, most));
            } else if (pick < 62) {
                int g = giftNumber();
                int day = slow.isGift(g) && random.nextInt(3) > 0 ? slow.gifts.get(g).day + in(-1, 10) : day();
                check("back(" + g + ", " + day + ")", () -> fast.back(g, day) ? 1 : 0, () -> slow.back(g, day));
            } else if (pick < 72) {
                int g = giftNumber();
                check("tell(" + g + ")", () -> fast.tell(g) ? 1 : 0, () -> slow.tell(g));
            } else if (pick < 74) {
                addLaw();
            } else if (pick < 78) {
                int n = random.nextInt(30) == 0 ? in(-1, 10000) : random.nextInt(1 + span / 8);
                check("next(" + n + ")", () -> fast.next(n), () -> slow.next(n));
            } else if (pick < 82) {
                int person = person();
                check("member(" + person + ")", () -> fast.member(person), () -> slow.member(person));
            } else if (pick < 85) {
                int f = any();
                int day = day();
                check("matter(" + f + ", " + day + ")", () -> fast.matter(f, day), () -> slow.matter(f, day));
            } else if (pick < 92) {
                int like = random.nextInt(Math.max(1, slow.gifts.size()));
                boolean alike = slow.isGift(like) && random.nextInt(5) > 0;
                put(alike ? slow.names.get(slow.gifts.get(like).person) : name());
                int giver = alike && random.nextInt(3) > 0 ? slow.gifts.get(like).giver : any();
                int day = alike ? slow.gifts.get(like).day + in(-4, 4) : day();
                int worth = alike ? slow.gifts.get(like).worths.get(0)[1] + in(-1, 300) : in(-1, 1000001);
                check("entry(" + giver + ", " + day + ", " + worth + ")", () -> fast.entry(giver, day, worth), () -> slow.entry(giver, day, worth));
            } else if (pick < 99) {
                int m = in(-1, slow.matters.size());
                int person = slow.members.isEmpty() || random.nextInt(9) == 0 ? person() : slow.members.get(random.nextInt(slow.members.size()));
                boolean isFor = random.nextInt(3) > 0;
                check("vote(" + m + ", " + person + ", " + isFor + ")", () -> fast.vote(m, person, isFor), () -> slow.vote(m, person, isFor));
            } else {
                int n = in(-1, 30);
                check("end(" + n + ")", () -> fast.end(n) ? 1 : 0, () -> slow.end(n));
            }
        }

        int giftNumber() {
            return random.nextInt(200) == 0 ? wild() : random.nextInt(15) == 0 ? in(-1, 121) : random.nextInt(Math.max(1, slow.gifts.size()));
        }

        void ask() {
            int d = day();
            int t = time();
            int x = random.nextBoolean() ? person() : any();
            switch (random.nextInt(14)) {
                case 0: {
                    int f = body();
                    check("part(" + x + ", " + f + ", " + d + ", " + t + ")", () -> fast.part(x, f, d, t), () -> slow.part(x, f, d, t));
                    break;
                }
                case 1: {
                    int f = body();
                    check("chain(" + x + ", " + f + ", " + d + ", " + t + ")", () -> fast.chain(x, f, d, t), () -> slow.chain(x, f, d, t));
                    int k = in(-1, 5);
                    check("octet(" + k + ")", () -> fast.octet(k), () -> slow.octet(k));
                    break;
                }
                case 2: {
                    int y = any();
                    check("head(" + y + ", " + d + ", " + t + ")", () -> fast.head(y, d, t), () -> slow.head(y, d, t));
                    break;
                }
                case 3: {
                    int b = person();
                    check("degree(" + x + ", " + b + ", " + d + ", " + t + ")", () -> fast.degree(x, b, d, t), () -> slow.degree(x, b, d, t));
                    break;
                }
                case 4:
                case 5:
                case 6: {
                    int g = giftNumber();
                    int what = random.nextInt(20) == 0 ? in(-1, 9) : in(0, 8);
                    check("judged(" + g + ", " + t + ", " + what + ")", () -> fast.judged(g, t, what), () -> slow.judged(g, t, what));
                    break;
                }
                case 7:
                case 8: {
                    int m = in(random.nextInt(20) == 0 ? -1 : 0, Math.max(0, slow.matters.size() - (random.nextInt(20) == 0 ? 0 : 1)));
                    int p = person();
                    check("sits(" + m + ", " + p + ", " + t + ")", () -> fast.sits(m, p, t), () -> slow.sits(m, p, t));
                    check("quorum(" + m + ", " + t + ")", () -> fast.quorum(m, t), () -> slow.quorum(m, t));
                    break;
                }
                case 9: {
                    check("joined(" + t + ")", () -> fast.joined(t), () -> slow.joined(t));
                    break;
                }
                case 10: {
                    int e = in(random.nextInt(20) == 0 ? -1 : 0, Math.max(0, slow.entries.size() - (random.nextInt(20) == 0 ? 0 : 1)));
                    int what = random.nextInt(20) == 0 ? in(-1, 3) : in(0, 2);
                    check("entered(" + e + ", " + t + ", " + what + ")", () -> fast.entered(e, t, what), () -> slow.entered(e, t, what));
                    break;
                }
                case 11: {
                    int what = random.nextInt(20) == 0 ? in(-1, 4) : in(0, 3);
                    check("links(" + t + ", " + what + ")", () -> fast.links(t, what), () -> slow.links(t, what));
                    int which = random.nextInt(20) == 0 ? in(-1, 2) : in(0, 1);
                    check("chance(" + t + ", " + which + ")", () -> fast.chance(t, which), () -> slow.chance(t, which));
                    break;
                }
                case 12: {
                    int p = person();
                    int what = random.nextInt(20) == 0 ? in(-1, 6) : in(0, 5);
                    check("asked(" + p + ", " + t + ", " + what + ")", () -> fast.asked(p, t, what), () -> slow.asked(p, t, what));
                    break;
                }
                default: {
                    int what = in(-1, 13);
                    check("count(" + what + ")", () -> fast.count(what), () -> slow.count(what));
                    break;
                }
            }
        }
    }
}
